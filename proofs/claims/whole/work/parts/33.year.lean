-- PART 33: year
/-- all but the reference is as it was -/
def FM (S T : MS) : Prop := (∀ k i f, ¬ k = 8 → gI T k i f = gI S k i f) ∧ (∀ k i f, ¬ k = 8 → gL T k i f = gL S k i f) ∧ ∀ k i, k < 30 → gA T k i = gA S k i
theorem FM.refl {S : MS} : FM S S := ⟨fun _ _ _ _ => rfl, fun _ _ _ _ => rfl, fun _ _ _ => rfl⟩
theorem FM.trans {S T U : MS} (h1 : FM S T) (h2 : FM T U) : FM S U := ⟨fun k i f h => (h2.1 k i f h).trans (h1.1 k i f h), fun k i f h => (h2.2.1 k i f h).trans (h1.2.1 k i f h), fun k i h => (h2.2.2 k i h).trans (h1.2.2 k i h)⟩
theorem fm_sI {S : MS} {i f : Nat} {v : Int32} : FM S (sI S 8 i f v) := ⟨fun k i g q => by rw [gI_sI, if_neg (fun e => q e.1)], fun _ _ _ _ => rfl, fun _ _ _ => rfl⟩
theorem fm_sA {S : MS} {k i : Nat} {r : Nat → Int32} (h : 30 ≤ k) : FM S (sA S k i r) := ⟨fun _ _ _ _ => rfl, fun _ _ _ _ => rfl, fun a b q => by rw [gA_sA, if_neg (fun e => by omega)]⟩
theorem yrx_fm {S T : MS} {j : Nat} {Y : Nat → Nat → Nat} (h : YrX S j Y) (f : FM S T) : YrX T j Y := ⟨fun g hg i hi => by rw [f.2.2 (20 + g) j (by omega)]; exact h.1 g hg i hi, fun t ht => by rw [f.1 6 j (7 + t) (by decide)]; exact h.2 t ht⟩
theorem f3_fy {S T : MS} {j : Nat} (h : FY j S T) : Fr p3 S T := by
  refine ⟨fun k i f q => h.1 k i f (fun e => ?_), fun k i f _ => h.2.1 k i f, fun k i q => h.2.2 k i (fun e => ?_)⟩
  · rw [e.1] at q
    unfold cI at q
    rw [if_neg (by omega), if_pos rfl] at q
    split at q
    · cases q
    · split at q
      · cases q
      · cases q
  · unfold cA at q
    rw [if_neg (by omega), if_neg (by omega), if_neg (by omega), if_neg (by omega), if_neg (by omega), if_neg (by omega)] at q
    split at q
    · split at q
      · cases q
      · split at q
        · cases q
        · cases q
    · cases q
theorem kl_rng {b : Nat → Int32} {n q m : Nat} {x : Nat × Nat × Nat × Nat} (h : dst b n q m = .inr x) : x.1 < 6 ∧ x.2.1 ≤ 9 ∧ x.2.2.1 ≤ 9 ∧ x.2.2.2 ≤ 9 := by
  unfold dst at h
  split at h
  · cases h
  · rename_i kd hkd
    split at h
    · cases h
    · split at h
      · cases h
      · rename_i x3 hx3
        have e := Sum.inr.inj h
        subst e
        unfold figs3 at hx3
        split at hx3
        · cases hx3
        · rename_i a ha
          split at hx3
          · cases hx3
          · rename_i b2 hb
            split at hx3
            · cases hx3
            · rename_i c hc
              have e := Sum.inr.inj hx3
              subst e
              exact ⟨kl_lt hkd, (dgt_lt ha).1, (dgt_lt hb).1, (dgt_lt hc).1⟩
theorem pl_rng {b : Nat → Int32} {n : Nat} : ∀ (k p : Nat) (acc l : List (Nat × Nat × Nat × Nat)), acc.length ≤ 5 → (∀ x, x ∈ acc → x.1 < 6 ∧ x.2.1 ≤ 9 ∧ x.2.2.1 ≤ 9 ∧ x.2.2.2 ≤ 9) → plD b n k p acc = .inr l → 0 < l.length ∧ l.length ≤ 5 ∧ ∀ x, x ∈ l → x.1 < 6 ∧ x.2.1 ≤ 9 ∧ x.2.2.1 ≤ 9 ∧ x.2.2.2 ≤ 9 := by
  intro k
  induction k with
  | zero => intro p acc l _ _ h; cases h
  | succ k ih =>
    intro p acc l h5 hx h
    rw [plD_eq] at h
    split at h
    · split at h
      · cases h
      · rename_i h0
        have e := Sum.inr.inj h
        subst e
        exact ⟨by omega, h5, hx⟩
    · cases hd : dst b n (skp b n p) acc.length with
      | inl e => rw [hd] at h; cases h
      | inr x =>
        rw [hd] at h
        refine ih _ _ l ?_ (fun y hy => ?_) h
        · have := (dst_p4 hd).2
          rw [List.length_append]
          show acc.length + 1 ≤ 5
          omega
        · rcases List.mem_append.mp hy with a | a
          · exact hx y a
          · rw [List.mem_singleton.mp a]
            exact kl_rng hd
theorem prs_ok {b : Nat → Int32} {n w o : Nat} {l : List (Nat × Nat × Nat × Nat)} (h : prs b n = .inr (w, o, l)) : w ≤ 40 ∧ o ≤ 9 ∧ 0 < l.length ∧ l.length ≤ 5 ∧ ∀ x, x ∈ l → x.1 < 6 ∧ x.2.1 ≤ 9 ∧ x.2.2.1 ≤ 9 ∧ x.2.2.2 ≤ 9 := by
  unfold prs at h
  cases hh : hdD b n (skp b n 0) with
  | inl e => rw [hh] at h; cases h
  | inr g =>
    rw [hh] at h
    dsimp only at h
    cases hp : plD b n 61 (skp b n 0 + 4) [] with
    | inl e => rw [hp] at h; cases h
    | inr l2 =>
      rw [hp] at h
      have e := Sum.inr.inj h
      simp only [Prod.mk.injEq] at e
      obtain ⟨e1, e2, e3⟩ := e
      subst e3
      obtain ⟨g1, g2⟩ := g
      have e1 : g1 = w := e1
      have e2 : g2 = o := e2
      subst e1
      subst e2
      refine ⟨?_, ?_, pl_rng 61 _ [] _ (by decide) (fun x h => by cases h) hp⟩
      · unfold hdD at hh
        split at hh
        · cases hh
        · split at hh
          · cases hh
          · split at hh
            · cases hh
            · split at hh
              · cases hh
              · split at hh
                · cases hh
                · have e := Sum.inr.inj hh
                  simp only [Prod.mk.injEq] at e
                  omega
      · unfold hdD at hh
        split at hh
        · cases hh
        · split at hh
          · cases hh
          · split at hh
            · cases hh
            · split at hh
              · cases hh
              · split at hh
                · cases hh
                · rename_i z hz
                  have e := Sum.inr.inj hh
                  simp only [Prod.mk.injEq] at e
                  have := (dgt_lt hz).1
                  omega
theorem hd_le {b : Nat → Int32} {n q e : Nat} (hq : q ≤ n) (h : hdD b n q = .inl e) : e ≤ n := by
  unfold hdD at h
  split at h
  · have := Sum.inl.inj h; omega
  · rename_i h0
    split at h
    · have := Sum.inl.inj h; omega
    · rename_i x hx
      have a1 := (dgt_lt hx).2.1
      split at h
      · have := Sum.inl.inj h; omega
      · rename_i y hy
        have a2 := (dgt_lt hy).2.1
        split at h
        · have := Sum.inl.inj h; omega
        · split at h
          · have := Sum.inl.inj h; omega
          · cases h
theorem ds_le {b : Nat → Int32} {n q e m : Nat} (hq : q < n) (h : dst b n q m = .inl e) : e ≤ n := by
  unfold dst at h
  split at h
  · have := Sum.inl.inj h; omega
  · split at h
    · have := Sum.inl.inj h; omega
    · split at h
      · rename_i e2 he2
        have := Sum.inl.inj h
        subst this
        unfold figs3 at he2
        split at he2
        · have := Sum.inl.inj he2; omega
        · rename_i x hx
          have a1 := (dgt_lt hx).2.1
          split at he2
          · have := Sum.inl.inj he2; omega
          · rename_i y hy
            have a2 := (dgt_lt hy).2.1
            split at he2
            · have := Sum.inl.inj he2; omega
            · cases he2
      · cases h
theorem pl_le {b : Nat → Int32} {n e : Nat} : ∀ (k p : Nat) (acc : List (Nat × Nat × Nat × Nat)), p ≤ n → plD b n k p acc = .inl e → e ≤ n := by
  intro k
  induction k with
  | zero => intro p acc hp h; have := Sum.inl.inj h; omega
  | succ k ih =>
    intro p acc hp h
    rw [plD_eq] at h
    split at h
    · split at h
      · have := Sum.inl.inj h; omega
      · cases h
    · rename_i h0
      cases hd : dst b n (skp b n p) acc.length with
      | inl e2 =>
        rw [hd] at h
        have := Sum.inl.inj h
        subst this
        exact ds_le (by omega) hd
      | inr x =>
        rw [hd] at h
        exact ih _ _ (dst_p4 hd).1 h
theorem prs_le {b : Nat → Int32} {n e : Nat} (h : prs b n = .inl e) : e ≤ n := by
  have hs := (skp_spec (b := b) (n := n) (p := 0) (Nat.zero_le n)).2.1
  unfold prs at h
  cases hh : hdD b n (skp b n 0) with
  | inl e2 =>
    rw [hh] at h
    have := Sum.inl.inj h
    subst this
    exact hd_le hs hh
  | inr g =>
    rw [hh] at h
    dsimp only at h
    cases hp : plD b n 61 (skp b n 0 + 4) [] with
    | inl e2 =>
      rw [hp] at h
      have := Sum.inl.inj h
      subst this
      exact pl_le 61 _ [] (hd_p4 (w := g.1) (o := g.2) hh) hp
    | inr l2 => rw [hp] at h; cases h
theorem yl_ok {b : Nat → Int32} {n w o : Nat} {l : List (Nat × Nat × Nat × Nat)} {Y : Nat → Nat → Nat} (h : prs b n = .inr (w, o, l)) (hy : YL Y w o l) : YOk 0 Y := by
  obtain ⟨a1, a2, a3, a4, a5⟩ := prs_ok h
  obtain ⟨⟨b0, b1, b2, b3, b4⟩, b5⟩ := hy
  refine ⟨⟨by omega, by omega, by omega, by omega, by rw [b4]; exact Nat.two_pow_pos _⟩, fun i hi => ?_⟩
  have hi2 : i < l.length := by omega
  have hx : l[i]? = some l[i] := List.getElem?_eq_getElem hi2
  obtain ⟨c0, c1, c2, c3, c4, c5⟩ := b5 i _ hx
  have := a5 l[i] (List.getElem_mem hi2)
  omega
section
variable {d : Nat} {S : MS} {P : Option AV → MS → Prop} {Y : Nat → Nat → Nat} {w o : Nat} {l : List (Nat × Nat × Nat × Nat)}
theorem l_my1 : ∀ (m p : Nat) (S : MS), p + m = 19 → wpX (d + 9) mX9_year 66 [aR 8 0, aU, aU] [] (sA S 40 0 (fil (gA S 40 0) p 19 (nI 0))) P → wpX (d + 9) mX9_year 47 [aR 8 0, aU, aI (nI p)] [] S P := by
  intro m
  induction m with
  | zero =>
    intro p S hp q
    have e : p = 19 := by omega
    subst e
    rw [fil_0, sA_self] at q
    refine s_X9_year_47 ?_
    simp (disch := omega) only [B_X9_year_47, wi_iload_n, wi_bipush, wi_icmp_ge, wi_aload_n, wi_getfield, fldv_8_20, fds_8_20, cnt_8, wi_iconst, wi_iastore, wi_iinc, wi_goto, cnt_34, aTy_34, aLn_34, arr_34, cnt_36, aTy_36, aLn_36, arr_36, cnt_37, aTy_37, aLn_37, arr_37, cnt_38, aTy_38, aLn_38, arr_38, cnt_39, aTy_39, aLn_39, arr_39, cnt_40, aTy_40, aLn_40, arr_40, cnt_43, aTy_43, aLn_43, arr_43, bsv_43, no0, no1, nz1, nz2, nz3, nz4, nz5, nz7, nz8, Classical.not_not, bz0, bz1, wi_nil, ld_0, ld_s, isIv_I, isLv_L, isRv_R, true_and, and_true, lset_0, lset_1, lset_s, avw_I, avw_L, avw_R, clr_cons, clr_nil, kst_0, kst_1, kstL_0, kstL_1, addk_I, pA_0, pA_s, pD_0, pD_s, wid_nil, wid_cons, rcv_c, putv_I, putv_L, List.length_cons, List.length_nil, List.set_cons_zero, List.set_cons_succ, not_false_eq_true, Nat.reduceMod, Nat.reduceDiv, Nat.reduceEqDiff, Nat.reduceLT, Nat.reduceLeDiff, Nat.reduceAdd, Nat.reduceSub, reduceIte, Nat.lt_irrefl, Nat.zero_ne_one, Nat.one_ne_zero, Nat.zero_add, List.nil_append, List.cons_append, Option.toList_some, Option.toList_none, forall_const, false_implies, true_implies, false_or, or_false, true_or, or_true, i_le, i_lt, i_eq, i_eq0, i_lt0, i_0le, i_0lt, i_le0, i_in1, i_cl, nI_add, pk_mul, pk_sub, i_div, i_rem, i_sh1, i_bit, i_or, i_and, i_andn, nt_le, nf_le, nt_lt, nf_lt, nt_eq, nf_eq, not_true_eq_false, and_self, and_false, false_and, eq_self, Bool.toNat_true, Bool.toNat_false, i_bool, i_bool1, Bool.false_eq_true, Bool.true_eq_false, reduceCtorEq, i_neg1, i_neg2, i_neg3, i_neg4, i_neg5, i_neg6, i_neg7, i_neg8, i_neg9, i_nega, i_negb, i_negc, i_max2, i_min2]
    exact q
  | succ m ih =>
    intro p S hp q
    refine s_X9_year_47 ?_
    simp (disch := omega) only [B_X9_year_47, wi_iload_n, wi_bipush, wi_icmp_ge, wi_aload_n, wi_getfield, fldv_8_20, fds_8_20, cnt_8, wi_iconst, wi_iastore, wi_iinc, wi_goto, cnt_34, aTy_34, aLn_34, arr_34, cnt_36, aTy_36, aLn_36, arr_36, cnt_37, aTy_37, aLn_37, arr_37, cnt_38, aTy_38, aLn_38, arr_38, cnt_39, aTy_39, aLn_39, arr_39, cnt_40, aTy_40, aLn_40, arr_40, cnt_43, aTy_43, aLn_43, arr_43, bsv_43, no0, no1, nz1, nz2, nz3, nz4, nz5, nz7, nz8, Classical.not_not, bz0, bz1, wi_nil, ld_0, ld_s, isIv_I, isLv_L, isRv_R, true_and, and_true, lset_0, lset_1, lset_s, avw_I, avw_L, avw_R, clr_cons, clr_nil, kst_0, kst_1, kstL_0, kstL_1, addk_I, pA_0, pA_s, pD_0, pD_s, wid_nil, wid_cons, rcv_c, putv_I, putv_L, List.length_cons, List.length_nil, List.set_cons_zero, List.set_cons_succ, not_false_eq_true, Nat.reduceMod, Nat.reduceDiv, Nat.reduceEqDiff, Nat.reduceLT, Nat.reduceLeDiff, Nat.reduceAdd, Nat.reduceSub, reduceIte, Nat.lt_irrefl, Nat.zero_ne_one, Nat.one_ne_zero, Nat.zero_add, List.nil_append, List.cons_append, Option.toList_some, Option.toList_none, forall_const, false_implies, true_implies, false_or, or_false, true_or, or_true, i_le, i_lt, i_eq, i_eq0, i_lt0, i_0le, i_0lt, i_le0, i_in1, i_cl, nI_add, pk_mul, pk_sub, i_div, i_rem, i_sh1, i_bit, i_or, i_and, i_andn, nt_le, nf_le, nt_lt, nf_lt, nt_eq, nf_eq, not_true_eq_false, and_self, and_false, false_and, eq_self, Bool.toNat_true, Bool.toNat_false, i_bool, i_bool1, Bool.false_eq_true, Bool.true_eq_false, reduceCtorEq, i_neg1, i_neg2, i_neg3, i_neg4, i_neg5, i_neg6, i_neg7, i_neg8, i_neg9, i_nega, i_negb, i_negc, i_max2, i_min2]
    refine ih (p + 1) _ (by omega) ?_
    rw [gA_same, sA_sA, fil_upd (by omega)]
    exact q
theorem l_my3 : ∀ (m p : Nat) (S : MS), p + m = 3 → wpX (d + 9) mX9_year 198 [aR 8 0, aU, aU] [] (sA S 43 0 (fil (gA S 43 0) p 3 (nI 0))) P → wpX (d + 9) mX9_year 180 [aR 8 0, aU, aI (nI p)] [] S P := by
  have hb : vp_nar .boolean (nI 0) = nI 0 := by decide +kernel
  intro m
  induction m with
  | zero =>
    intro p S hp q
    have e : p = 3 := by omega
    subst e
    rw [fil_0, sA_self] at q
    refine s_X9_year_180 ?_
    simp (disch := omega) only [B_X9_year_180, wi_iload_n, wi_iconst, wi_icmp_ge, wi_aload_n, wi_getfield, fldv_8_24, fds_8_24, cnt_8, wi_bastore, wi_iinc, wi_goto, cnt_34, aTy_34, aLn_34, arr_34, cnt_36, aTy_36, aLn_36, arr_36, cnt_37, aTy_37, aLn_37, arr_37, cnt_38, aTy_38, aLn_38, arr_38, cnt_39, aTy_39, aLn_39, arr_39, cnt_40, aTy_40, aLn_40, arr_40, cnt_43, aTy_43, aLn_43, arr_43, bsv_43, no0, no1, nz1, nz2, nz3, nz4, nz5, nz7, nz8, Classical.not_not, bz0, bz1, wi_nil, ld_0, ld_s, isIv_I, isLv_L, isRv_R, true_and, and_true, lset_0, lset_1, lset_s, avw_I, avw_L, avw_R, clr_cons, clr_nil, kst_0, kst_1, kstL_0, kstL_1, addk_I, pA_0, pA_s, pD_0, pD_s, wid_nil, wid_cons, rcv_c, putv_I, putv_L, List.length_cons, List.length_nil, List.set_cons_zero, List.set_cons_succ, not_false_eq_true, Nat.reduceMod, Nat.reduceDiv, Nat.reduceEqDiff, Nat.reduceLT, Nat.reduceLeDiff, Nat.reduceAdd, Nat.reduceSub, reduceIte, Nat.lt_irrefl, Nat.zero_ne_one, Nat.one_ne_zero, Nat.zero_add, List.nil_append, List.cons_append, Option.toList_some, Option.toList_none, forall_const, false_implies, true_implies, false_or, or_false, true_or, or_true, i_le, i_lt, i_eq, i_eq0, i_lt0, i_0le, i_0lt, i_le0, i_in1, i_cl, nI_add, pk_mul, pk_sub, i_div, i_rem, i_sh1, i_bit, i_or, i_and, i_andn, nt_le, nf_le, nt_lt, nf_lt, nt_eq, nf_eq, not_true_eq_false, and_self, and_false, false_and, eq_self, Bool.toNat_true, Bool.toNat_false, i_bool, i_bool1, Bool.false_eq_true, Bool.true_eq_false, reduceCtorEq, i_neg1, i_neg2, i_neg3, i_neg4, i_neg5, i_neg6, i_neg7, i_neg8, i_neg9, i_nega, i_negb, i_negc, i_max2, i_min2]
    exact q
  | succ m ih =>
    intro p S hp q
    refine s_X9_year_180 ?_
    simp (disch := omega) only [B_X9_year_180, wi_iload_n, wi_iconst, wi_icmp_ge, wi_aload_n, wi_getfield, fldv_8_24, fds_8_24, cnt_8, wi_bastore, wi_iinc, wi_goto, cnt_34, aTy_34, aLn_34, arr_34, cnt_36, aTy_36, aLn_36, arr_36, cnt_37, aTy_37, aLn_37, arr_37, cnt_38, aTy_38, aLn_38, arr_38, cnt_39, aTy_39, aLn_39, arr_39, cnt_40, aTy_40, aLn_40, arr_40, cnt_43, aTy_43, aLn_43, arr_43, bsv_43, no0, no1, nz1, nz2, nz3, nz4, nz5, nz7, nz8, Classical.not_not, bz0, bz1, wi_nil, ld_0, ld_s, isIv_I, isLv_L, isRv_R, true_and, and_true, lset_0, lset_1, lset_s, avw_I, avw_L, avw_R, clr_cons, clr_nil, kst_0, kst_1, kstL_0, kstL_1, addk_I, pA_0, pA_s, pD_0, pD_s, wid_nil, wid_cons, rcv_c, putv_I, putv_L, List.length_cons, List.length_nil, List.set_cons_zero, List.set_cons_succ, not_false_eq_true, Nat.reduceMod, Nat.reduceDiv, Nat.reduceEqDiff, Nat.reduceLT, Nat.reduceLeDiff, Nat.reduceAdd, Nat.reduceSub, reduceIte, Nat.lt_irrefl, Nat.zero_ne_one, Nat.one_ne_zero, Nat.zero_add, List.nil_append, List.cons_append, Option.toList_some, Option.toList_none, forall_const, false_implies, true_implies, false_or, or_false, true_or, or_true, i_le, i_lt, i_eq, i_eq0, i_lt0, i_0le, i_0lt, i_le0, i_in1, i_cl, nI_add, pk_mul, pk_sub, i_div, i_rem, i_sh1, i_bit, i_or, i_and, i_andn, nt_le, nf_le, nt_lt, nf_lt, nt_eq, nf_eq, not_true_eq_false, and_self, and_false, false_and, eq_self, Bool.toNat_true, Bool.toNat_false, i_bool, i_bool1, Bool.false_eq_true, Bool.true_eq_false, reduceCtorEq, i_neg1, i_neg2, i_neg3, i_neg4, i_neg5, i_neg6, i_neg7, i_neg8, i_neg9, i_nega, i_negb, i_negc, i_max2, i_min2, hb]
    refine ih (p + 1) _ (by omega) ?_
    rw [gA_same, sA_sA, fil_upd (by omega)]
    exact q
/-- what stands in the reference's row when i deeds have come -/
def nwv (Y : Nat → Nat → Nat) (w o i p : Nat) : Nat := if p = 0 then 1 else if p = 1 then w else if p = 2 then o else if 4 ≤ p ∧ p < 4 + i then Y 2 (p - 4) else 0
theorem l_my2 {S0 : MS} (hl5 : l.length ≤ 5) (hy : YL Y w o l) (hd : ∀ i x, l[i]? = some x → gA S0 39 0 (4 * i) = nI x.1 ∧ gA S0 39 0 (4 * i + 1) = nI x.2.1 ∧ gA S0 39 0 (4 * i + 2) = nI x.2.2.1 ∧ gA S0 39 0 (4 * i + 3) = nI x.2.2.2) (hn : gI S0 8 0 10 = nI l.length)
    (q : ∀ S2, (∀ p, p < 19 → gA S2 40 0 p = nI (nwv Y w o l.length p)) → (∀ j, j < l.length → gA S2 36 0 j = nI (Y 0 j) ∧ gA S2 37 0 j = nI (Y 1 j) ∧ gA S2 38 0 j = nI (Y 3 j)) → gI S2 8 0 10 = nI l.length → Fr p3 S0 S2 → FM S0 S2 → wpX (d + 9) mX9_year 173 [aR 8 0, aU, aU] [] S2 P) :
    ∀ (m i : Nat) (S : MS), i + m = l.length → (∀ p, p < 19 → gA S 40 0 p = nI (nwv Y w o i p)) → (∀ j, j < i → gA S 36 0 j = nI (Y 0 j) ∧ gA S 37 0 j = nI (Y 1 j) ∧ gA S 38 0 j = nI (Y 3 j)) → gI S 8 0 10 = nI l.length → gA S 39 0 = gA S0 39 0 → Fr p3 S0 S → FM S0 S → wpX (d + 9) mX9_year 95 [aR 8 0, aU, aI (nI i)] [] S P := by
  intro m
  induction m with
  | zero =>
    intro i S hi h40 hb h10 h39 f3 fm
    have e : i = l.length := by omega
    subst e
    refine s_X9_year_95 ?_
    simp (disch := omega) only [B_X9_year_95, wi_iload_n, wi_aload_n, wi_getfield, fldv_8_10, fds_8_10, cnt_8, wi_icmp_ge, fldv_8_11, fds_8_11, fldv_8_19, fds_8_19, wi_iconst, wi_imul, wi_iaload, wi_iastore, fldv_8_12, fds_8_12, wi_iadd, fldv_8_20, fds_8_20, fldv_8_13, fds_8_13, wi_iinc, wi_goto, cnt_34, aTy_34, aLn_34, arr_34, cnt_36, aTy_36, aLn_36, arr_36, cnt_37, aTy_37, aLn_37, arr_37, cnt_38, aTy_38, aLn_38, arr_38, cnt_39, aTy_39, aLn_39, arr_39, cnt_40, aTy_40, aLn_40, arr_40, cnt_43, aTy_43, aLn_43, arr_43, bsv_43, no0, no1, nz1, nz2, nz3, nz4, nz5, nz7, nz8, Classical.not_not, bz0, bz1, wi_nil, ld_0, ld_s, isIv_I, isLv_L, isRv_R, true_and, and_true, lset_0, lset_1, lset_s, avw_I, avw_L, avw_R, clr_cons, clr_nil, kst_0, kst_1, kstL_0, kstL_1, addk_I, pA_0, pA_s, pD_0, pD_s, wid_nil, wid_cons, rcv_c, putv_I, putv_L, List.length_cons, List.length_nil, List.set_cons_zero, List.set_cons_succ, not_false_eq_true, Nat.reduceMod, Nat.reduceDiv, Nat.reduceEqDiff, Nat.reduceLT, Nat.reduceLeDiff, Nat.reduceAdd, Nat.reduceSub, reduceIte, Nat.lt_irrefl, Nat.zero_ne_one, Nat.one_ne_zero, Nat.zero_add, List.nil_append, List.cons_append, Option.toList_some, Option.toList_none, forall_const, false_implies, true_implies, false_or, or_false, true_or, or_true, i_le, i_lt, i_eq, i_eq0, i_lt0, i_0le, i_0lt, i_le0, i_in1, i_cl, nI_add, pk_mul, pk_sub, i_div, i_rem, i_sh1, i_bit, i_or, i_and, i_andn, nt_le, nf_le, nt_lt, nf_lt, nt_eq, nf_eq, not_true_eq_false, and_self, and_false, false_and, eq_self, Bool.toNat_true, Bool.toNat_false, i_bool, i_bool1, Bool.false_eq_true, Bool.true_eq_false, reduceCtorEq, i_neg1, i_neg2, i_neg3, i_neg4, i_neg5, i_neg6, i_neg7, i_neg8, i_neg9, i_nega, i_negb, i_negc, i_max2, i_min2, h10]
    exact q S h40 hb h10 f3 fm
  | succ m ih =>
    intro i S hi h40 hb h10 h39 f3 fm
    have hi2 : i < l.length := by omega
    have hx : l[i]? = some l[i] := List.getElem?_eq_getElem hi2
    generalize l[i] = x at hx
    obtain ⟨g0, g1, g2, g3⟩ := hd i x hx
    rw [← h39] at g0 g1 g2 g3
    obtain ⟨y0, y1, y2, y3, -, -⟩ := hy.2 i x hx
    rw [← y0] at g0
    rw [← y1] at g1
    rw [← y2] at g2
    rw [← y3] at g3
    refine s_X9_year_95 ?_
    simp (disch := omega) only [B_X9_year_95, wi_iload_n, wi_aload_n, wi_getfield, fldv_8_10, fds_8_10, cnt_8, wi_icmp_ge, fldv_8_11, fds_8_11, fldv_8_19, fds_8_19, wi_iconst, wi_imul, wi_iaload, wi_iastore, fldv_8_12, fds_8_12, wi_iadd, fldv_8_20, fds_8_20, fldv_8_13, fds_8_13, wi_iinc, wi_goto, cnt_34, aTy_34, aLn_34, arr_34, cnt_36, aTy_36, aLn_36, arr_36, cnt_37, aTy_37, aLn_37, arr_37, cnt_38, aTy_38, aLn_38, arr_38, cnt_39, aTy_39, aLn_39, arr_39, cnt_40, aTy_40, aLn_40, arr_40, cnt_43, aTy_43, aLn_43, arr_43, bsv_43, no0, no1, nz1, nz2, nz3, nz4, nz5, nz7, nz8, Classical.not_not, bz0, bz1, wi_nil, ld_0, ld_s, isIv_I, isLv_L, isRv_R, true_and, and_true, lset_0, lset_1, lset_s, avw_I, avw_L, avw_R, clr_cons, clr_nil, kst_0, kst_1, kstL_0, kstL_1, addk_I, pA_0, pA_s, pD_0, pD_s, wid_nil, wid_cons, rcv_c, putv_I, putv_L, List.length_cons, List.length_nil, List.set_cons_zero, List.set_cons_succ, not_false_eq_true, Nat.reduceMod, Nat.reduceDiv, Nat.reduceEqDiff, Nat.reduceLT, Nat.reduceLeDiff, Nat.reduceAdd, Nat.reduceSub, reduceIte, Nat.lt_irrefl, Nat.zero_ne_one, Nat.one_ne_zero, Nat.zero_add, List.nil_append, List.cons_append, Option.toList_some, Option.toList_none, forall_const, false_implies, true_implies, false_or, or_false, true_or, or_true, i_le, i_lt, i_eq, i_eq0, i_lt0, i_0le, i_0lt, i_le0, i_in1, i_cl, nI_add, pk_mul, pk_sub, i_div, i_rem, i_sh1, i_bit, i_or, i_and, i_andn, nt_le, nf_le, nt_lt, nf_lt, nt_eq, nf_eq, not_true_eq_false, and_self, and_false, false_and, eq_self, Bool.toNat_true, Bool.toNat_false, i_bool, i_bool1, Bool.false_eq_true, Bool.true_eq_false, reduceCtorEq, i_neg1, i_neg2, i_neg3, i_neg4, i_neg5, i_neg6, i_neg7, i_neg8, i_neg9, i_nega, i_negb, i_negc, i_max2, i_min2, h10, g0, g1, g2, g3, gI_sI, gI_sL, gI_sA, gL_sI, gL_sL, gL_sA, gA_sI, gA_sL, gA_sA, sA_sA, pk_us, pk_un]
    refine ih (i + 1) _ (by omega) (fun p hp => ?_) (fun j hj => ?_) h10 h39 ((((f3.trans (fr_sA rfl)).trans (fr_sA rfl)).trans (fr_sA rfl)).trans (fr_sA rfl)) ((((fm.trans (fm_sA (by decide))).trans (fm_sA (by decide))).trans (fm_sA (by decide))).trans (fm_sA (by decide)))
    · show upd (gA S 40 0) (4 + i) (nI (Y 2 i)) p = _
      by_cases e : p = 4 + i
      · subst e
        rw [pk_us]
        unfold nwv
        rw [if_neg (by omega), if_neg (by omega), if_neg (by omega), if_pos (by omega), show 4 + i - 4 = i by omega]
      · rw [pk_un e, h40 p hp]
        congr 1
        unfold nwv
        split
        · rfl
        · split
          · rfl
          · split
            · rfl
            · by_cases e2 : 4 ≤ p ∧ p < 4 + i
              · rw [if_pos e2, if_pos (by omega)]
              · rw [if_neg e2, if_neg (by omega)]
    · show upd (gA S 36 0) i (nI (Y 0 i)) j = _ ∧ upd (gA S 37 0) i (nI (Y 1 i)) j = _ ∧ upd (gA S 38 0) i (nI (Y 3 i)) j = _
      by_cases e : j = i
      · subst e
        exact ⟨pk_us, pk_us, pk_us⟩
      · rw [pk_un e, pk_un e, pk_un e]
        exact hb j (by omega)
theorem nwa_0 (hn : Y 6 0 = l.length) (hl5 : l.length ≤ 5) (hy : YL Y w o l) {g : Nat → Int32} (h : ∀ p, p < 19 → g p = nI (nwv Y w o l.length p)) : NwA g 0 Y := by
  obtain ⟨⟨b0, b1, b2, b3, b4⟩, b5⟩ := hy
  refine ⟨⟨?_, ?_, ?_, ?_⟩, fun i hi => ?_⟩
  · rw [h 0 (by decide), b1]; rfl
  · rw [h (0 + 1) (by decide), b2]; rfl
  · rw [h (0 + 2) (by decide), b3]; rfl
  · rw [h (0 + 3) (by decide), b4]; rfl
  · have hi2 : i < l.length := by omega
    have hx : l[i]? = some l[i] := List.getElem?_eq_getElem hi2
    obtain ⟨-, -, -, -, c4, c5⟩ := b5 i _ hx
    rw [Nat.zero_add, Nat.zero_add, Nat.zero_add, h _ (by omega), h _ (by omega), h _ (by omega), c4, c5]
    unfold nwv
    refine ⟨?_, ?_, ?_⟩
    · rw [if_neg (by omega), if_neg (by omega), if_neg (by omega), if_pos (by omega), show 4 + i - 4 = i by omega]
    · rw [if_neg (by omega), if_neg (by omega), if_neg (by omega), if_neg (by omega)]
    · rw [if_neg (by omega), if_neg (by omega), if_neg (by omega), if_neg (by omega)]
theorem o_year {r : Int32} (h : Rr S) : wpM (d + 10) mX8_year [aR 7 0, aI r] S (PX d mX9_year [aI r]) := by
  obtain ⟨-, ⟨ts, tc, h1⟩, hh⟩ := id h
  cases hr : inB r 4
  · refine x_entry (ls2 := [aR 7 0, aI r]) (Nat.le_of_ble_eq_true rfl) pl_8 rfl (Nat.le_of_ble_eq_true rfl) ?_
    try simp (disch := omega) only [no0, no1, nz1, nz2, nz3, nz4, nz5, nz7, nz8, Classical.not_not, bz0, bz1, wi_nil, ld_0, ld_s, isIv_I, isLv_L, isRv_R, true_and, and_true, lset_0, lset_1, lset_s, avw_I, avw_L, avw_R, clr_cons, clr_nil, kst_0, kst_1, kstL_0, kstL_1, addk_I, pA_0, pA_s, pD_0, pD_s, wid_nil, wid_cons, rcv_c, putv_I, putv_L, List.length_cons, List.length_nil, List.set_cons_zero, List.set_cons_succ, not_false_eq_true, Nat.reduceMod, Nat.reduceDiv, Nat.reduceEqDiff, Nat.reduceLT, Nat.reduceLeDiff, Nat.reduceAdd, Nat.reduceSub, reduceIte, Nat.lt_irrefl, Nat.zero_ne_one, Nat.one_ne_zero, Nat.zero_add, List.nil_append, List.cons_append, Option.toList_some, Option.toList_none, forall_const, false_implies, true_implies, false_or, or_false, true_or, or_true, i_le, i_lt, i_eq, i_eq0, i_lt0, i_0le, i_0lt, i_le0, i_in1, i_cl, nI_add, pk_mul, pk_sub, i_div, i_rem, i_sh1, i_bit, i_or, i_and, i_andn, nt_le, nf_le, nt_lt, nf_lt, nt_eq, nf_eq, not_true_eq_false, and_self, and_false, false_and, eq_self, Bool.toNat_true, Bool.toNat_false, i_bool, i_bool1, Bool.false_eq_true, Bool.true_eq_false, reduceCtorEq, i_neg1, i_neg2, i_neg3, i_neg4, i_neg5, i_neg6, i_neg7, i_neg8, i_neg9, i_nega, i_negb, i_negc, i_max2, i_min2, wi_nil]
    repeat (
      first
      | refine s_X8_year_0 ?_
      | refine s_X8_year_4 ?_
      | refine s_X8_year_9 ?_
      | refine s_X8_year_17 ?_
      | refine s_X8_year_25 ?_
      | refine s_X8_year_26 ?_
      | refine s_X8_year_38 ?_
      | refine s_X8_year_46 ?_
      | refine s_X8_year_57 ?_
      | refine s_X8_year_68 ?_
      | refine s_X8_year_75 ?_
      simp (disch := omega) only [B_X8_year_0, wi_iload_n, wi_invokestatic, B_X8_year_4, wi_if_ne, wi_iconst, wi_ireturn, B_X8_year_9, wi_aload_n, wi_getfield, fldv_7_1, fds_7_1, cnt_7, wi_invokevirtual, cnt_5, B_X8_year_17, B_X8_year_25, B_X8_year_26, fldv_7_5, fds_7_5, fldv_7_4, fds_7_4, cnt_2, B_X8_year_38, wi_bipush, wi_icmp_eq, B_X8_year_46, fldv_7_2, fds_7_2, cnt_6, B_X8_year_57, fldv_7_3, fds_7_3, B_X8_year_68, fldv_7_6, fds_7_6, cnt_0, B_X8_year_75, fldv_6_7, fds_6_7, no0, no1, nz1, nz2, nz3, nz4, nz5, nz7, nz8, Classical.not_not, bz0, bz1, wi_nil, ld_0, ld_s, isIv_I, isLv_L, isRv_R, true_and, and_true, lset_0, lset_1, lset_s, avw_I, avw_L, avw_R, clr_cons, clr_nil, kst_0, kst_1, kstL_0, kstL_1, addk_I, pA_0, pA_s, pD_0, pD_s, wid_nil, wid_cons, rcv_c, putv_I, putv_L, List.length_cons, List.length_nil, List.set_cons_zero, List.set_cons_succ, not_false_eq_true, Nat.reduceMod, Nat.reduceDiv, Nat.reduceEqDiff, Nat.reduceLT, Nat.reduceLeDiff, Nat.reduceAdd, Nat.reduceSub, reduceIte, Nat.lt_irrefl, Nat.zero_ne_one, Nat.one_ne_zero, Nat.zero_add, List.nil_append, List.cons_append, Option.toList_some, Option.toList_none, forall_const, false_implies, true_implies, false_or, or_false, true_or, or_true, i_le, i_lt, i_eq, i_eq0, i_lt0, i_0le, i_0lt, i_le0, i_in1, i_cl, nI_add, pk_mul, pk_sub, i_div, i_rem, i_sh1, i_bit, i_or, i_and, i_andn, nt_le, nf_le, nt_lt, nf_lt, nt_eq, nf_eq, not_true_eq_false, and_self, and_false, false_and, eq_self, Bool.toNat_true, Bool.toNat_false, i_bool, i_bool1, Bool.false_eq_true, Bool.true_eq_false, reduceCtorEq, i_neg1, i_neg2, i_neg3, i_neg4, i_neg5, i_neg6, i_neg7, i_neg8, i_neg9, i_nega, i_negb, i_negc, i_max2, i_min2])
    refine c_isText ?_
    try simp (disch := omega) only [no0, no1, nz1, nz2, nz3, nz4, nz5, nz7, nz8, Classical.not_not, bz0, bz1, wi_nil, ld_0, ld_s, isIv_I, isLv_L, isRv_R, true_and, and_true, lset_0, lset_1, lset_s, avw_I, avw_L, avw_R, clr_cons, clr_nil, kst_0, kst_1, kstL_0, kstL_1, addk_I, pA_0, pA_s, pD_0, pD_s, wid_nil, wid_cons, rcv_c, putv_I, putv_L, List.length_cons, List.length_nil, List.set_cons_zero, List.set_cons_succ, not_false_eq_true, Nat.reduceMod, Nat.reduceDiv, Nat.reduceEqDiff, Nat.reduceLT, Nat.reduceLeDiff, Nat.reduceAdd, Nat.reduceSub, reduceIte, Nat.lt_irrefl, Nat.zero_ne_one, Nat.one_ne_zero, Nat.zero_add, List.nil_append, List.cons_append, Option.toList_some, Option.toList_none, forall_const, false_implies, true_implies, false_or, or_false, true_or, or_true, i_le, i_lt, i_eq, i_eq0, i_lt0, i_0le, i_0lt, i_le0, i_in1, i_cl, nI_add, pk_mul, pk_sub, i_div, i_rem, i_sh1, i_bit, i_or, i_and, i_andn, nt_le, nf_le, nt_lt, nf_lt, nt_eq, nf_eq, not_true_eq_false, and_self, and_false, false_and, eq_self, Bool.toNat_true, Bool.toNat_false, i_bool, i_bool1, Bool.false_eq_true, Bool.true_eq_false, reduceCtorEq, i_neg1, i_neg2, i_neg3, i_neg4, i_neg5, i_neg6, i_neg7, i_neg8, i_neg9, i_nega, i_negb, i_negc, i_max2, i_min2, hr, wi_nil]
    repeat (
      first
      | refine s_X8_year_0 ?_
      | refine s_X8_year_4 ?_
      | refine s_X8_year_9 ?_
      | refine s_X8_year_17 ?_
      | refine s_X8_year_25 ?_
      | refine s_X8_year_26 ?_
      | refine s_X8_year_38 ?_
      | refine s_X8_year_46 ?_
      | refine s_X8_year_57 ?_
      | refine s_X8_year_68 ?_
      | refine s_X8_year_75 ?_
      simp (disch := omega) only [B_X8_year_0, wi_iload_n, wi_invokestatic, B_X8_year_4, wi_if_ne, wi_iconst, wi_ireturn, B_X8_year_9, wi_aload_n, wi_getfield, fldv_7_1, fds_7_1, cnt_7, wi_invokevirtual, cnt_5, B_X8_year_17, B_X8_year_25, B_X8_year_26, fldv_7_5, fds_7_5, fldv_7_4, fds_7_4, cnt_2, B_X8_year_38, wi_bipush, wi_icmp_eq, B_X8_year_46, fldv_7_2, fds_7_2, cnt_6, B_X8_year_57, fldv_7_3, fds_7_3, B_X8_year_68, fldv_7_6, fds_7_6, cnt_0, B_X8_year_75, fldv_6_7, fds_6_7, no0, no1, nz1, nz2, nz3, nz4, nz5, nz7, nz8, Classical.not_not, bz0, bz1, wi_nil, ld_0, ld_s, isIv_I, isLv_L, isRv_R, true_and, and_true, lset_0, lset_1, lset_s, avw_I, avw_L, avw_R, clr_cons, clr_nil, kst_0, kst_1, kstL_0, kstL_1, addk_I, pA_0, pA_s, pD_0, pD_s, wid_nil, wid_cons, rcv_c, putv_I, putv_L, List.length_cons, List.length_nil, List.set_cons_zero, List.set_cons_succ, not_false_eq_true, Nat.reduceMod, Nat.reduceDiv, Nat.reduceEqDiff, Nat.reduceLT, Nat.reduceLeDiff, Nat.reduceAdd, Nat.reduceSub, reduceIte, Nat.lt_irrefl, Nat.zero_ne_one, Nat.one_ne_zero, Nat.zero_add, List.nil_append, List.cons_append, Option.toList_some, Option.toList_none, forall_const, false_implies, true_implies, false_or, or_false, true_or, or_true, i_le, i_lt, i_eq, i_eq0, i_lt0, i_0le, i_0lt, i_le0, i_in1, i_cl, nI_add, pk_mul, pk_sub, i_div, i_rem, i_sh1, i_bit, i_or, i_and, i_andn, nt_le, nf_le, nt_lt, nf_lt, nt_eq, nf_eq, not_true_eq_false, and_self, and_false, false_and, eq_self, Bool.toNat_true, Bool.toNat_false, i_bool, i_bool1, Bool.false_eq_true, Bool.true_eq_false, reduceCtorEq, i_neg1, i_neg2, i_neg3, i_neg4, i_neg5, i_neg6, i_neg7, i_neg8, i_neg9, i_nega, i_negb, i_negc, i_max2, i_min2, hr])
    refine px ?_
    refine x_entry (ls2 := [aR 8 0, aI r, aU]) (Nat.le_of_ble_eq_true rfl) pl_9 rfl (Nat.le_of_ble_eq_true rfl) ?_
    try simp (disch := omega) only [no0, no1, nz1, nz2, nz3, nz4, nz5, nz7, nz8, Classical.not_not, bz0, bz1, wi_nil, ld_0, ld_s, isIv_I, isLv_L, isRv_R, true_and, and_true, lset_0, lset_1, lset_s, avw_I, avw_L, avw_R, clr_cons, clr_nil, kst_0, kst_1, kstL_0, kstL_1, addk_I, pA_0, pA_s, pD_0, pD_s, wid_nil, wid_cons, rcv_c, putv_I, putv_L, List.length_cons, List.length_nil, List.set_cons_zero, List.set_cons_succ, not_false_eq_true, Nat.reduceMod, Nat.reduceDiv, Nat.reduceEqDiff, Nat.reduceLT, Nat.reduceLeDiff, Nat.reduceAdd, Nat.reduceSub, reduceIte, Nat.lt_irrefl, Nat.zero_ne_one, Nat.one_ne_zero, Nat.zero_add, List.nil_append, List.cons_append, Option.toList_some, Option.toList_none, forall_const, false_implies, true_implies, false_or, or_false, true_or, or_true, i_le, i_lt, i_eq, i_eq0, i_lt0, i_0le, i_0lt, i_le0, i_in1, i_cl, nI_add, pk_mul, pk_sub, i_div, i_rem, i_sh1, i_bit, i_or, i_and, i_andn, nt_le, nf_le, nt_lt, nf_lt, nt_eq, nf_eq, not_true_eq_false, and_self, and_false, false_and, eq_self, Bool.toNat_true, Bool.toNat_false, i_bool, i_bool1, Bool.false_eq_true, Bool.true_eq_false, reduceCtorEq, i_neg1, i_neg2, i_neg3, i_neg4, i_neg5, i_neg6, i_neg7, i_neg8, i_neg9, i_nega, i_negb, i_negc, i_max2, i_min2, wi_nil]
    repeat (
      first
      | refine s_X9_year_0 ?_
      | refine s_X9_year_4 ?_
      | refine s_X9_year_9 ?_
      | refine s_X9_year_23 ?_
      | refine s_X9_year_24 ?_
      | refine s_X9_year_29 ?_
      | refine s_X9_year_37 ?_
      | refine s_X9_year_66 ?_
      | refine s_X9_year_173 ?_
      | refine s_X9_year_198 ?_
      simp (disch := omega) only [B_X9_year_0, wi_iload_n, wi_invokestatic, B_X9_year_4, wi_if_ne, wi_iconst, wi_ireturn, B_X9_year_9, wi_aload_n, wi_getfield, fldv_8_8, fds_8_8, cnt_8, wi_iaload, wi_if_ge, wi_invokevirtual, cnt_34, aTy_34, aLn_34, arr_34, cnt_36, aTy_36, aLn_36, arr_36, cnt_37, aTy_37, aLn_37, arr_37, cnt_38, aTy_38, aLn_38, arr_38, cnt_39, aTy_39, aLn_39, arr_39, cnt_40, aTy_40, aLn_40, arr_40, cnt_43, aTy_43, aLn_43, arr_43, bsv_43, B_X9_year_23, B_X9_year_24, B_X9_year_29, wi_bipush, wi_icmp_eq, B_X9_year_37, fldv_8_15, fds_8_15, wi_putfield, pOk_8_10, wi_istore_n, B_X9_year_47, wi_icmp_ge, fldv_8_20, fds_8_20, wi_iastore, wi_iinc, wi_goto, B_X9_year_66, fldv_8_16, fds_8_16, fldv_8_17, fds_8_17, B_X9_year_95, fldv_8_10, fds_8_10, fldv_8_11, fds_8_11, fldv_8_19, fds_8_19, wi_imul, fldv_8_12, fds_8_12, wi_iadd, fldv_8_13, fds_8_13, B_X9_year_173, pOk_8_22, B_X9_year_180, fldv_8_24, fds_8_24, wi_bastore, B_X9_year_198, no0, no1, nz1, nz2, nz3, nz4, nz5, nz7, nz8, Classical.not_not, bz0, bz1, wi_nil, ld_0, ld_s, isIv_I, isLv_L, isRv_R, true_and, and_true, lset_0, lset_1, lset_s, avw_I, avw_L, avw_R, clr_cons, clr_nil, kst_0, kst_1, kstL_0, kstL_1, addk_I, pA_0, pA_s, pD_0, pD_s, wid_nil, wid_cons, rcv_c, putv_I, putv_L, List.length_cons, List.length_nil, List.set_cons_zero, List.set_cons_succ, not_false_eq_true, Nat.reduceMod, Nat.reduceDiv, Nat.reduceEqDiff, Nat.reduceLT, Nat.reduceLeDiff, Nat.reduceAdd, Nat.reduceSub, reduceIte, Nat.lt_irrefl, Nat.zero_ne_one, Nat.one_ne_zero, Nat.zero_add, List.nil_append, List.cons_append, Option.toList_some, Option.toList_none, forall_const, false_implies, true_implies, false_or, or_false, true_or, or_true, i_le, i_lt, i_eq, i_eq0, i_lt0, i_0le, i_0lt, i_le0, i_in1, i_cl, nI_add, pk_mul, pk_sub, i_div, i_rem, i_sh1, i_bit, i_or, i_and, i_andn, nt_le, nf_le, nt_lt, nf_lt, nt_eq, nf_eq, not_true_eq_false, and_self, and_false, false_and, eq_self, Bool.toNat_true, Bool.toNat_false, i_bool, i_bool1, Bool.false_eq_true, Bool.true_eq_false, reduceCtorEq, i_neg1, i_neg2, i_neg3, i_neg4, i_neg5, i_neg6, i_neg7, i_neg8, i_neg9, i_nega, i_negb, i_negc, i_max2, i_min2])
    refine c_mText ?_
    try simp (disch := omega) only [no0, no1, nz1, nz2, nz3, nz4, nz5, nz7, nz8, Classical.not_not, bz0, bz1, wi_nil, ld_0, ld_s, isIv_I, isLv_L, isRv_R, true_and, and_true, lset_0, lset_1, lset_s, avw_I, avw_L, avw_R, clr_cons, clr_nil, kst_0, kst_1, kstL_0, kstL_1, addk_I, pA_0, pA_s, pD_0, pD_s, wid_nil, wid_cons, rcv_c, putv_I, putv_L, List.length_cons, List.length_nil, List.set_cons_zero, List.set_cons_succ, not_false_eq_true, Nat.reduceMod, Nat.reduceDiv, Nat.reduceEqDiff, Nat.reduceLT, Nat.reduceLeDiff, Nat.reduceAdd, Nat.reduceSub, reduceIte, Nat.lt_irrefl, Nat.zero_ne_one, Nat.one_ne_zero, Nat.zero_add, List.nil_append, List.cons_append, Option.toList_some, Option.toList_none, forall_const, false_implies, true_implies, false_or, or_false, true_or, or_true, i_le, i_lt, i_eq, i_eq0, i_lt0, i_0le, i_0lt, i_le0, i_in1, i_cl, nI_add, pk_mul, pk_sub, i_div, i_rem, i_sh1, i_bit, i_or, i_and, i_andn, nt_le, nf_le, nt_lt, nf_lt, nt_eq, nf_eq, not_true_eq_false, and_self, and_false, false_and, eq_self, Bool.toNat_true, Bool.toNat_false, i_bool, i_bool1, Bool.false_eq_true, Bool.true_eq_false, reduceCtorEq, i_neg1, i_neg2, i_neg3, i_neg4, i_neg5, i_neg6, i_neg7, i_neg8, i_neg9, i_nega, i_negb, i_negc, i_max2, i_min2, hr, wi_nil]
    repeat (
      first
      | refine s_X9_year_0 ?_
      | refine s_X9_year_4 ?_
      | refine s_X9_year_9 ?_
      | refine s_X9_year_23 ?_
      | refine s_X9_year_24 ?_
      | refine s_X9_year_29 ?_
      | refine s_X9_year_37 ?_
      | refine s_X9_year_66 ?_
      | refine s_X9_year_173 ?_
      | refine s_X9_year_198 ?_
      simp (disch := omega) only [B_X9_year_0, wi_iload_n, wi_invokestatic, B_X9_year_4, wi_if_ne, wi_iconst, wi_ireturn, B_X9_year_9, wi_aload_n, wi_getfield, fldv_8_8, fds_8_8, cnt_8, wi_iaload, wi_if_ge, wi_invokevirtual, cnt_34, aTy_34, aLn_34, arr_34, cnt_36, aTy_36, aLn_36, arr_36, cnt_37, aTy_37, aLn_37, arr_37, cnt_38, aTy_38, aLn_38, arr_38, cnt_39, aTy_39, aLn_39, arr_39, cnt_40, aTy_40, aLn_40, arr_40, cnt_43, aTy_43, aLn_43, arr_43, bsv_43, B_X9_year_23, B_X9_year_24, B_X9_year_29, wi_bipush, wi_icmp_eq, B_X9_year_37, fldv_8_15, fds_8_15, wi_putfield, pOk_8_10, wi_istore_n, B_X9_year_47, wi_icmp_ge, fldv_8_20, fds_8_20, wi_iastore, wi_iinc, wi_goto, B_X9_year_66, fldv_8_16, fds_8_16, fldv_8_17, fds_8_17, B_X9_year_95, fldv_8_10, fds_8_10, fldv_8_11, fds_8_11, fldv_8_19, fds_8_19, wi_imul, fldv_8_12, fds_8_12, wi_iadd, fldv_8_13, fds_8_13, B_X9_year_173, pOk_8_22, B_X9_year_180, fldv_8_24, fds_8_24, wi_bastore, B_X9_year_198, no0, no1, nz1, nz2, nz3, nz4, nz5, nz7, nz8, Classical.not_not, bz0, bz1, wi_nil, ld_0, ld_s, isIv_I, isLv_L, isRv_R, true_and, and_true, lset_0, lset_1, lset_s, avw_I, avw_L, avw_R, clr_cons, clr_nil, kst_0, kst_1, kstL_0, kstL_1, addk_I, pA_0, pA_s, pD_0, pD_s, wid_nil, wid_cons, rcv_c, putv_I, putv_L, List.length_cons, List.length_nil, List.set_cons_zero, List.set_cons_succ, not_false_eq_true, Nat.reduceMod, Nat.reduceDiv, Nat.reduceEqDiff, Nat.reduceLT, Nat.reduceLeDiff, Nat.reduceAdd, Nat.reduceSub, reduceIte, Nat.lt_irrefl, Nat.zero_ne_one, Nat.one_ne_zero, Nat.zero_add, List.nil_append, List.cons_append, Option.toList_some, Option.toList_none, forall_const, false_implies, true_implies, false_or, or_false, true_or, or_true, i_le, i_lt, i_eq, i_eq0, i_lt0, i_0le, i_0lt, i_le0, i_in1, i_cl, nI_add, pk_mul, pk_sub, i_div, i_rem, i_sh1, i_bit, i_or, i_and, i_andn, nt_le, nf_le, nt_lt, nf_lt, nt_eq, nf_eq, not_true_eq_false, and_self, and_false, false_and, eq_self, Bool.toNat_true, Bool.toNat_false, i_bool, i_bool1, Bool.false_eq_true, Bool.true_eq_false, reduceCtorEq, i_neg1, i_neg2, i_neg3, i_neg4, i_neg5, i_neg6, i_neg7, i_neg8, i_neg9, i_nega, i_negb, i_negc, i_max2, i_min2, hr])
    exact pm h
  · obtain ⟨t, ht4, rfl⟩ := inb_nat hr
    have hs := (h1.2.1 t ht4).1
    have hz6 := (h1.2.1 t ht4).2.1
    refine x_entry (ls2 := [aR 7 0, aI (nI t)]) (Nat.le_of_ble_eq_true rfl) pl_8 rfl (Nat.le_of_ble_eq_true rfl) ?_
    try simp (disch := omega) only [no0, no1, nz1, nz2, nz3, nz4, nz5, nz7, nz8, Classical.not_not, bz0, bz1, wi_nil, ld_0, ld_s, isIv_I, isLv_L, isRv_R, true_and, and_true, lset_0, lset_1, lset_s, avw_I, avw_L, avw_R, clr_cons, clr_nil, kst_0, kst_1, kstL_0, kstL_1, addk_I, pA_0, pA_s, pD_0, pD_s, wid_nil, wid_cons, rcv_c, putv_I, putv_L, List.length_cons, List.length_nil, List.set_cons_zero, List.set_cons_succ, not_false_eq_true, Nat.reduceMod, Nat.reduceDiv, Nat.reduceEqDiff, Nat.reduceLT, Nat.reduceLeDiff, Nat.reduceAdd, Nat.reduceSub, reduceIte, Nat.lt_irrefl, Nat.zero_ne_one, Nat.one_ne_zero, Nat.zero_add, List.nil_append, List.cons_append, Option.toList_some, Option.toList_none, forall_const, false_implies, true_implies, false_or, or_false, true_or, or_true, i_le, i_lt, i_eq, i_eq0, i_lt0, i_0le, i_0lt, i_le0, i_in1, i_cl, nI_add, pk_mul, pk_sub, i_div, i_rem, i_sh1, i_bit, i_or, i_and, i_andn, nt_le, nf_le, nt_lt, nf_lt, nt_eq, nf_eq, not_true_eq_false, and_self, and_false, false_and, eq_self, Bool.toNat_true, Bool.toNat_false, i_bool, i_bool1, Bool.false_eq_true, Bool.true_eq_false, reduceCtorEq, i_neg1, i_neg2, i_neg3, i_neg4, i_neg5, i_neg6, i_neg7, i_neg8, i_neg9, i_nega, i_negb, i_negc, i_max2, i_min2, wi_nil]
    repeat (
      first
      | refine s_X8_year_0 ?_
      | refine s_X8_year_4 ?_
      | refine s_X8_year_9 ?_
      | refine s_X8_year_17 ?_
      | refine s_X8_year_25 ?_
      | refine s_X8_year_26 ?_
      | refine s_X8_year_38 ?_
      | refine s_X8_year_46 ?_
      | refine s_X8_year_57 ?_
      | refine s_X8_year_68 ?_
      | refine s_X8_year_75 ?_
      simp (disch := omega) only [B_X8_year_0, wi_iload_n, wi_invokestatic, B_X8_year_4, wi_if_ne, wi_iconst, wi_ireturn, B_X8_year_9, wi_aload_n, wi_getfield, fldv_7_1, fds_7_1, cnt_7, wi_invokevirtual, cnt_5, B_X8_year_17, B_X8_year_25, B_X8_year_26, fldv_7_5, fds_7_5, fldv_7_4, fds_7_4, cnt_2, B_X8_year_38, wi_bipush, wi_icmp_eq, B_X8_year_46, fldv_7_2, fds_7_2, cnt_6, B_X8_year_57, fldv_7_3, fds_7_3, B_X8_year_68, fldv_7_6, fds_7_6, cnt_0, B_X8_year_75, fldv_6_7, fds_6_7, no0, no1, nz1, nz2, nz3, nz4, nz5, nz7, nz8, Classical.not_not, bz0, bz1, wi_nil, ld_0, ld_s, isIv_I, isLv_L, isRv_R, true_and, and_true, lset_0, lset_1, lset_s, avw_I, avw_L, avw_R, clr_cons, clr_nil, kst_0, kst_1, kstL_0, kstL_1, addk_I, pA_0, pA_s, pD_0, pD_s, wid_nil, wid_cons, rcv_c, putv_I, putv_L, List.length_cons, List.length_nil, List.set_cons_zero, List.set_cons_succ, not_false_eq_true, Nat.reduceMod, Nat.reduceDiv, Nat.reduceEqDiff, Nat.reduceLT, Nat.reduceLeDiff, Nat.reduceAdd, Nat.reduceSub, reduceIte, Nat.lt_irrefl, Nat.zero_ne_one, Nat.one_ne_zero, Nat.zero_add, List.nil_append, List.cons_append, Option.toList_some, Option.toList_none, forall_const, false_implies, true_implies, false_or, or_false, true_or, or_true, i_le, i_lt, i_eq, i_eq0, i_lt0, i_0le, i_0lt, i_le0, i_in1, i_cl, nI_add, pk_mul, pk_sub, i_div, i_rem, i_sh1, i_bit, i_or, i_and, i_andn, nt_le, nf_le, nt_lt, nf_lt, nt_eq, nf_eq, not_true_eq_false, and_self, and_false, false_and, eq_self, Bool.toNat_true, Bool.toNat_false, i_bool, i_bool1, Bool.false_eq_true, Bool.true_eq_false, reduceCtorEq, i_neg1, i_neg2, i_neg3, i_neg4, i_neg5, i_neg6, i_neg7, i_neg8, i_neg9, i_nega, i_negb, i_negc, i_max2, i_min2])
    refine c_isText ?_
    try simp (disch := omega) only [no0, no1, nz1, nz2, nz3, nz4, nz5, nz7, nz8, Classical.not_not, bz0, bz1, wi_nil, ld_0, ld_s, isIv_I, isLv_L, isRv_R, true_and, and_true, lset_0, lset_1, lset_s, avw_I, avw_L, avw_R, clr_cons, clr_nil, kst_0, kst_1, kstL_0, kstL_1, addk_I, pA_0, pA_s, pD_0, pD_s, wid_nil, wid_cons, rcv_c, putv_I, putv_L, List.length_cons, List.length_nil, List.set_cons_zero, List.set_cons_succ, not_false_eq_true, Nat.reduceMod, Nat.reduceDiv, Nat.reduceEqDiff, Nat.reduceLT, Nat.reduceLeDiff, Nat.reduceAdd, Nat.reduceSub, reduceIte, Nat.lt_irrefl, Nat.zero_ne_one, Nat.one_ne_zero, Nat.zero_add, List.nil_append, List.cons_append, Option.toList_some, Option.toList_none, forall_const, false_implies, true_implies, false_or, or_false, true_or, or_true, i_le, i_lt, i_eq, i_eq0, i_lt0, i_0le, i_0lt, i_le0, i_in1, i_cl, nI_add, pk_mul, pk_sub, i_div, i_rem, i_sh1, i_bit, i_or, i_and, i_andn, nt_le, nf_le, nt_lt, nf_lt, nt_eq, nf_eq, not_true_eq_false, and_self, and_false, false_and, eq_self, Bool.toNat_true, Bool.toNat_false, i_bool, i_bool1, Bool.false_eq_true, Bool.true_eq_false, reduceCtorEq, i_neg1, i_neg2, i_neg3, i_neg4, i_neg5, i_neg6, i_neg7, i_neg8, i_neg9, i_nega, i_negb, i_negc, i_max2, i_min2, hr, wi_nil]
    repeat (
      first
      | refine s_X8_year_0 ?_
      | refine s_X8_year_4 ?_
      | refine s_X8_year_9 ?_
      | refine s_X8_year_17 ?_
      | refine s_X8_year_25 ?_
      | refine s_X8_year_26 ?_
      | refine s_X8_year_38 ?_
      | refine s_X8_year_46 ?_
      | refine s_X8_year_57 ?_
      | refine s_X8_year_68 ?_
      | refine s_X8_year_75 ?_
      simp (disch := omega) only [B_X8_year_0, wi_iload_n, wi_invokestatic, B_X8_year_4, wi_if_ne, wi_iconst, wi_ireturn, B_X8_year_9, wi_aload_n, wi_getfield, fldv_7_1, fds_7_1, cnt_7, wi_invokevirtual, cnt_5, B_X8_year_17, B_X8_year_25, B_X8_year_26, fldv_7_5, fds_7_5, fldv_7_4, fds_7_4, cnt_2, B_X8_year_38, wi_bipush, wi_icmp_eq, B_X8_year_46, fldv_7_2, fds_7_2, cnt_6, B_X8_year_57, fldv_7_3, fds_7_3, B_X8_year_68, fldv_7_6, fds_7_6, cnt_0, B_X8_year_75, fldv_6_7, fds_6_7, no0, no1, nz1, nz2, nz3, nz4, nz5, nz7, nz8, Classical.not_not, bz0, bz1, wi_nil, ld_0, ld_s, isIv_I, isLv_L, isRv_R, true_and, and_true, lset_0, lset_1, lset_s, avw_I, avw_L, avw_R, clr_cons, clr_nil, kst_0, kst_1, kstL_0, kstL_1, addk_I, pA_0, pA_s, pD_0, pD_s, wid_nil, wid_cons, rcv_c, putv_I, putv_L, List.length_cons, List.length_nil, List.set_cons_zero, List.set_cons_succ, not_false_eq_true, Nat.reduceMod, Nat.reduceDiv, Nat.reduceEqDiff, Nat.reduceLT, Nat.reduceLeDiff, Nat.reduceAdd, Nat.reduceSub, reduceIte, Nat.lt_irrefl, Nat.zero_ne_one, Nat.one_ne_zero, Nat.zero_add, List.nil_append, List.cons_append, Option.toList_some, Option.toList_none, forall_const, false_implies, true_implies, false_or, or_false, true_or, or_true, i_le, i_lt, i_eq, i_eq0, i_lt0, i_0le, i_0lt, i_le0, i_in1, i_cl, nI_add, pk_mul, pk_sub, i_div, i_rem, i_sh1, i_bit, i_or, i_and, i_andn, nt_le, nf_le, nt_lt, nf_lt, nt_eq, nf_eq, not_true_eq_false, and_self, and_false, false_and, eq_self, Bool.toNat_true, Bool.toNat_false, i_bool, i_bool1, Bool.false_eq_true, Bool.true_eq_false, reduceCtorEq, i_neg1, i_neg2, i_neg3, i_neg4, i_neg5, i_neg6, i_neg7, i_neg8, i_neg9, i_nega, i_negb, i_negc, i_max2, i_min2, hr])
    refine c_Tthere h1.1 ht4 ?_
    rcases Nat.eq_zero_or_pos (ts t) with e | e
    · rw [e, sz_0] at hs
      rw [if_pos e]
      try simp (disch := omega) only [no0, no1, nz1, nz2, nz3, nz4, nz5, nz7, nz8, Classical.not_not, bz0, bz1, wi_nil, ld_0, ld_s, isIv_I, isLv_L, isRv_R, true_and, and_true, lset_0, lset_1, lset_s, avw_I, avw_L, avw_R, clr_cons, clr_nil, kst_0, kst_1, kstL_0, kstL_1, addk_I, pA_0, pA_s, pD_0, pD_s, wid_nil, wid_cons, rcv_c, putv_I, putv_L, List.length_cons, List.length_nil, List.set_cons_zero, List.set_cons_succ, not_false_eq_true, Nat.reduceMod, Nat.reduceDiv, Nat.reduceEqDiff, Nat.reduceLT, Nat.reduceLeDiff, Nat.reduceAdd, Nat.reduceSub, reduceIte, Nat.lt_irrefl, Nat.zero_ne_one, Nat.one_ne_zero, Nat.zero_add, List.nil_append, List.cons_append, Option.toList_some, Option.toList_none, forall_const, false_implies, true_implies, false_or, or_false, true_or, or_true, i_le, i_lt, i_eq, i_eq0, i_lt0, i_0le, i_0lt, i_le0, i_in1, i_cl, nI_add, pk_mul, pk_sub, i_div, i_rem, i_sh1, i_bit, i_or, i_and, i_andn, nt_le, nf_le, nt_lt, nf_lt, nt_eq, nf_eq, not_true_eq_false, and_self, and_false, false_and, eq_self, Bool.toNat_true, Bool.toNat_false, i_bool, i_bool1, Bool.false_eq_true, Bool.true_eq_false, reduceCtorEq, i_neg1, i_neg2, i_neg3, i_neg4, i_neg5, i_neg6, i_neg7, i_neg8, i_neg9, i_nega, i_negb, i_negc, i_max2, i_min2, wi_nil]
      repeat (
        first
        | refine s_X8_year_0 ?_
        | refine s_X8_year_4 ?_
        | refine s_X8_year_9 ?_
        | refine s_X8_year_17 ?_
        | refine s_X8_year_25 ?_
        | refine s_X8_year_26 ?_
        | refine s_X8_year_38 ?_
        | refine s_X8_year_46 ?_
        | refine s_X8_year_57 ?_
        | refine s_X8_year_68 ?_
        | refine s_X8_year_75 ?_
        simp (disch := omega) only [B_X8_year_0, wi_iload_n, wi_invokestatic, B_X8_year_4, wi_if_ne, wi_iconst, wi_ireturn, B_X8_year_9, wi_aload_n, wi_getfield, fldv_7_1, fds_7_1, cnt_7, wi_invokevirtual, cnt_5, B_X8_year_17, B_X8_year_25, B_X8_year_26, fldv_7_5, fds_7_5, fldv_7_4, fds_7_4, cnt_2, B_X8_year_38, wi_bipush, wi_icmp_eq, B_X8_year_46, fldv_7_2, fds_7_2, cnt_6, B_X8_year_57, fldv_7_3, fds_7_3, B_X8_year_68, fldv_7_6, fds_7_6, cnt_0, B_X8_year_75, fldv_6_7, fds_6_7, no0, no1, nz1, nz2, nz3, nz4, nz5, nz7, nz8, Classical.not_not, bz0, bz1, wi_nil, ld_0, ld_s, isIv_I, isLv_L, isRv_R, true_and, and_true, lset_0, lset_1, lset_s, avw_I, avw_L, avw_R, clr_cons, clr_nil, kst_0, kst_1, kstL_0, kstL_1, addk_I, pA_0, pA_s, pD_0, pD_s, wid_nil, wid_cons, rcv_c, putv_I, putv_L, List.length_cons, List.length_nil, List.set_cons_zero, List.set_cons_succ, not_false_eq_true, Nat.reduceMod, Nat.reduceDiv, Nat.reduceEqDiff, Nat.reduceLT, Nat.reduceLeDiff, Nat.reduceAdd, Nat.reduceSub, reduceIte, Nat.lt_irrefl, Nat.zero_ne_one, Nat.one_ne_zero, Nat.zero_add, List.nil_append, List.cons_append, Option.toList_some, Option.toList_none, forall_const, false_implies, true_implies, false_or, or_false, true_or, or_true, i_le, i_lt, i_eq, i_eq0, i_lt0, i_0le, i_0lt, i_le0, i_in1, i_cl, nI_add, pk_mul, pk_sub, i_div, i_rem, i_sh1, i_bit, i_or, i_and, i_andn, nt_le, nf_le, nt_lt, nf_lt, nt_eq, nf_eq, not_true_eq_false, and_self, and_false, false_and, eq_self, Bool.toNat_true, Bool.toNat_false, i_bool, i_bool1, Bool.false_eq_true, Bool.true_eq_false, reduceCtorEq, i_neg1, i_neg2, i_neg3, i_neg4, i_neg5, i_neg6, i_neg7, i_neg8, i_neg9, i_nega, i_negb, i_negc, i_max2, i_min2])
      refine c_refuse (by decide) ?_
      try simp (disch := omega) only [no0, no1, nz1, nz2, nz3, nz4, nz5, nz7, nz8, Classical.not_not, bz0, bz1, wi_nil, ld_0, ld_s, isIv_I, isLv_L, isRv_R, true_and, and_true, lset_0, lset_1, lset_s, avw_I, avw_L, avw_R, clr_cons, clr_nil, kst_0, kst_1, kstL_0, kstL_1, addk_I, pA_0, pA_s, pD_0, pD_s, wid_nil, wid_cons, rcv_c, putv_I, putv_L, List.length_cons, List.length_nil, List.set_cons_zero, List.set_cons_succ, not_false_eq_true, Nat.reduceMod, Nat.reduceDiv, Nat.reduceEqDiff, Nat.reduceLT, Nat.reduceLeDiff, Nat.reduceAdd, Nat.reduceSub, reduceIte, Nat.lt_irrefl, Nat.zero_ne_one, Nat.one_ne_zero, Nat.zero_add, List.nil_append, List.cons_append, Option.toList_some, Option.toList_none, forall_const, false_implies, true_implies, false_or, or_false, true_or, or_true, i_le, i_lt, i_eq, i_eq0, i_lt0, i_0le, i_0lt, i_le0, i_in1, i_cl, nI_add, pk_mul, pk_sub, i_div, i_rem, i_sh1, i_bit, i_or, i_and, i_andn, nt_le, nf_le, nt_lt, nf_lt, nt_eq, nf_eq, not_true_eq_false, and_self, and_false, false_and, eq_self, Bool.toNat_true, Bool.toNat_false, i_bool, i_bool1, Bool.false_eq_true, Bool.true_eq_false, reduceCtorEq, i_neg1, i_neg2, i_neg3, i_neg4, i_neg5, i_neg6, i_neg7, i_neg8, i_neg9, i_nega, i_negb, i_negc, i_max2, i_min2, wi_nil]
      repeat (
        first
        | refine s_X8_year_0 ?_
        | refine s_X8_year_4 ?_
        | refine s_X8_year_9 ?_
        | refine s_X8_year_17 ?_
        | refine s_X8_year_25 ?_
        | refine s_X8_year_26 ?_
        | refine s_X8_year_38 ?_
        | refine s_X8_year_46 ?_
        | refine s_X8_year_57 ?_
        | refine s_X8_year_68 ?_
        | refine s_X8_year_75 ?_
        simp (disch := omega) only [B_X8_year_0, wi_iload_n, wi_invokestatic, B_X8_year_4, wi_if_ne, wi_iconst, wi_ireturn, B_X8_year_9, wi_aload_n, wi_getfield, fldv_7_1, fds_7_1, cnt_7, wi_invokevirtual, cnt_5, B_X8_year_17, B_X8_year_25, B_X8_year_26, fldv_7_5, fds_7_5, fldv_7_4, fds_7_4, cnt_2, B_X8_year_38, wi_bipush, wi_icmp_eq, B_X8_year_46, fldv_7_2, fds_7_2, cnt_6, B_X8_year_57, fldv_7_3, fds_7_3, B_X8_year_68, fldv_7_6, fds_7_6, cnt_0, B_X8_year_75, fldv_6_7, fds_6_7, no0, no1, nz1, nz2, nz3, nz4, nz5, nz7, nz8, Classical.not_not, bz0, bz1, wi_nil, ld_0, ld_s, isIv_I, isLv_L, isRv_R, true_and, and_true, lset_0, lset_1, lset_s, avw_I, avw_L, avw_R, clr_cons, clr_nil, kst_0, kst_1, kstL_0, kstL_1, addk_I, pA_0, pA_s, pD_0, pD_s, wid_nil, wid_cons, rcv_c, putv_I, putv_L, List.length_cons, List.length_nil, List.set_cons_zero, List.set_cons_succ, not_false_eq_true, Nat.reduceMod, Nat.reduceDiv, Nat.reduceEqDiff, Nat.reduceLT, Nat.reduceLeDiff, Nat.reduceAdd, Nat.reduceSub, reduceIte, Nat.lt_irrefl, Nat.zero_ne_one, Nat.one_ne_zero, Nat.zero_add, List.nil_append, List.cons_append, Option.toList_some, Option.toList_none, forall_const, false_implies, true_implies, false_or, or_false, true_or, or_true, i_le, i_lt, i_eq, i_eq0, i_lt0, i_0le, i_0lt, i_le0, i_in1, i_cl, nI_add, pk_mul, pk_sub, i_div, i_rem, i_sh1, i_bit, i_or, i_and, i_andn, nt_le, nf_le, nt_lt, nf_lt, nt_eq, nf_eq, not_true_eq_false, and_self, and_false, false_and, eq_self, Bool.toNat_true, Bool.toNat_false, i_bool, i_bool1, Bool.false_eq_true, Bool.true_eq_false, reduceCtorEq, i_neg1, i_neg2, i_neg3, i_neg4, i_neg5, i_neg6, i_neg7, i_neg8, i_neg9, i_nega, i_negb, i_negc, i_max2, i_min2])
      refine px ?_
      refine x_entry (ls2 := [aR 8 0, aI (nI t), aU]) (Nat.le_of_ble_eq_true rfl) pl_9 rfl (Nat.le_of_ble_eq_true rfl) ?_
      try simp (disch := omega) only [no0, no1, nz1, nz2, nz3, nz4, nz5, nz7, nz8, Classical.not_not, bz0, bz1, wi_nil, ld_0, ld_s, isIv_I, isLv_L, isRv_R, true_and, and_true, lset_0, lset_1, lset_s, avw_I, avw_L, avw_R, clr_cons, clr_nil, kst_0, kst_1, kstL_0, kstL_1, addk_I, pA_0, pA_s, pD_0, pD_s, wid_nil, wid_cons, rcv_c, putv_I, putv_L, List.length_cons, List.length_nil, List.set_cons_zero, List.set_cons_succ, not_false_eq_true, Nat.reduceMod, Nat.reduceDiv, Nat.reduceEqDiff, Nat.reduceLT, Nat.reduceLeDiff, Nat.reduceAdd, Nat.reduceSub, reduceIte, Nat.lt_irrefl, Nat.zero_ne_one, Nat.one_ne_zero, Nat.zero_add, List.nil_append, List.cons_append, Option.toList_some, Option.toList_none, forall_const, false_implies, true_implies, false_or, or_false, true_or, or_true, i_le, i_lt, i_eq, i_eq0, i_lt0, i_0le, i_0lt, i_le0, i_in1, i_cl, nI_add, pk_mul, pk_sub, i_div, i_rem, i_sh1, i_bit, i_or, i_and, i_andn, nt_le, nf_le, nt_lt, nf_lt, nt_eq, nf_eq, not_true_eq_false, and_self, and_false, false_and, eq_self, Bool.toNat_true, Bool.toNat_false, i_bool, i_bool1, Bool.false_eq_true, Bool.true_eq_false, reduceCtorEq, i_neg1, i_neg2, i_neg3, i_neg4, i_neg5, i_neg6, i_neg7, i_neg8, i_neg9, i_nega, i_negb, i_negc, i_max2, i_min2, wi_nil]
      repeat (
        first
        | refine s_X9_year_0 ?_
        | refine s_X9_year_4 ?_
        | refine s_X9_year_9 ?_
        | refine s_X9_year_23 ?_
        | refine s_X9_year_24 ?_
        | refine s_X9_year_29 ?_
        | refine s_X9_year_37 ?_
        | refine s_X9_year_66 ?_
        | refine s_X9_year_173 ?_
        | refine s_X9_year_198 ?_
        simp (disch := omega) only [B_X9_year_0, wi_iload_n, wi_invokestatic, B_X9_year_4, wi_if_ne, wi_iconst, wi_ireturn, B_X9_year_9, wi_aload_n, wi_getfield, fldv_8_8, fds_8_8, cnt_8, wi_iaload, wi_if_ge, wi_invokevirtual, cnt_34, aTy_34, aLn_34, arr_34, cnt_36, aTy_36, aLn_36, arr_36, cnt_37, aTy_37, aLn_37, arr_37, cnt_38, aTy_38, aLn_38, arr_38, cnt_39, aTy_39, aLn_39, arr_39, cnt_40, aTy_40, aLn_40, arr_40, cnt_43, aTy_43, aLn_43, arr_43, bsv_43, B_X9_year_23, B_X9_year_24, B_X9_year_29, wi_bipush, wi_icmp_eq, B_X9_year_37, fldv_8_15, fds_8_15, wi_putfield, pOk_8_10, wi_istore_n, B_X9_year_47, wi_icmp_ge, fldv_8_20, fds_8_20, wi_iastore, wi_iinc, wi_goto, B_X9_year_66, fldv_8_16, fds_8_16, fldv_8_17, fds_8_17, B_X9_year_95, fldv_8_10, fds_8_10, fldv_8_11, fds_8_11, fldv_8_19, fds_8_19, wi_imul, fldv_8_12, fds_8_12, wi_iadd, fldv_8_13, fds_8_13, B_X9_year_173, pOk_8_22, B_X9_year_180, fldv_8_24, fds_8_24, wi_bastore, B_X9_year_198, no0, no1, nz1, nz2, nz3, nz4, nz5, nz7, nz8, Classical.not_not, bz0, bz1, wi_nil, ld_0, ld_s, isIv_I, isLv_L, isRv_R, true_and, and_true, lset_0, lset_1, lset_s, avw_I, avw_L, avw_R, clr_cons, clr_nil, kst_0, kst_1, kstL_0, kstL_1, addk_I, pA_0, pA_s, pD_0, pD_s, wid_nil, wid_cons, rcv_c, putv_I, putv_L, List.length_cons, List.length_nil, List.set_cons_zero, List.set_cons_succ, not_false_eq_true, Nat.reduceMod, Nat.reduceDiv, Nat.reduceEqDiff, Nat.reduceLT, Nat.reduceLeDiff, Nat.reduceAdd, Nat.reduceSub, reduceIte, Nat.lt_irrefl, Nat.zero_ne_one, Nat.one_ne_zero, Nat.zero_add, List.nil_append, List.cons_append, Option.toList_some, Option.toList_none, forall_const, false_implies, true_implies, false_or, or_false, true_or, or_true, i_le, i_lt, i_eq, i_eq0, i_lt0, i_0le, i_0lt, i_le0, i_in1, i_cl, nI_add, pk_mul, pk_sub, i_div, i_rem, i_sh1, i_bit, i_or, i_and, i_andn, nt_le, nf_le, nt_lt, nf_lt, nt_eq, nf_eq, not_true_eq_false, and_self, and_false, false_and, eq_self, Bool.toNat_true, Bool.toNat_false, i_bool, i_bool1, Bool.false_eq_true, Bool.true_eq_false, reduceCtorEq, i_neg1, i_neg2, i_neg3, i_neg4, i_neg5, i_neg6, i_neg7, i_neg8, i_neg9, i_nega, i_negb, i_negc, i_max2, i_min2])
      refine c_mText ?_
      try simp (disch := omega) only [no0, no1, nz1, nz2, nz3, nz4, nz5, nz7, nz8, Classical.not_not, bz0, bz1, wi_nil, ld_0, ld_s, isIv_I, isLv_L, isRv_R, true_and, and_true, lset_0, lset_1, lset_s, avw_I, avw_L, avw_R, clr_cons, clr_nil, kst_0, kst_1, kstL_0, kstL_1, addk_I, pA_0, pA_s, pD_0, pD_s, wid_nil, wid_cons, rcv_c, putv_I, putv_L, List.length_cons, List.length_nil, List.set_cons_zero, List.set_cons_succ, not_false_eq_true, Nat.reduceMod, Nat.reduceDiv, Nat.reduceEqDiff, Nat.reduceLT, Nat.reduceLeDiff, Nat.reduceAdd, Nat.reduceSub, reduceIte, Nat.lt_irrefl, Nat.zero_ne_one, Nat.one_ne_zero, Nat.zero_add, List.nil_append, List.cons_append, Option.toList_some, Option.toList_none, forall_const, false_implies, true_implies, false_or, or_false, true_or, or_true, i_le, i_lt, i_eq, i_eq0, i_lt0, i_0le, i_0lt, i_le0, i_in1, i_cl, nI_add, pk_mul, pk_sub, i_div, i_rem, i_sh1, i_bit, i_or, i_and, i_andn, nt_le, nf_le, nt_lt, nf_lt, nt_eq, nf_eq, not_true_eq_false, and_self, and_false, false_and, eq_self, Bool.toNat_true, Bool.toNat_false, i_bool, i_bool1, Bool.false_eq_true, Bool.true_eq_false, reduceCtorEq, i_neg1, i_neg2, i_neg3, i_neg4, i_neg5, i_neg6, i_neg7, i_neg8, i_neg9, i_nega, i_negb, i_negc, i_max2, i_min2, hr, (show gA (xRef 1 S) 34 0 t = -nI 1 from hs), wi_nil]
      repeat (
        first
        | refine s_X9_year_0 ?_
        | refine s_X9_year_4 ?_
        | refine s_X9_year_9 ?_
        | refine s_X9_year_23 ?_
        | refine s_X9_year_24 ?_
        | refine s_X9_year_29 ?_
        | refine s_X9_year_37 ?_
        | refine s_X9_year_66 ?_
        | refine s_X9_year_173 ?_
        | refine s_X9_year_198 ?_
        simp (disch := omega) only [B_X9_year_0, wi_iload_n, wi_invokestatic, B_X9_year_4, wi_if_ne, wi_iconst, wi_ireturn, B_X9_year_9, wi_aload_n, wi_getfield, fldv_8_8, fds_8_8, cnt_8, wi_iaload, wi_if_ge, wi_invokevirtual, cnt_34, aTy_34, aLn_34, arr_34, cnt_36, aTy_36, aLn_36, arr_36, cnt_37, aTy_37, aLn_37, arr_37, cnt_38, aTy_38, aLn_38, arr_38, cnt_39, aTy_39, aLn_39, arr_39, cnt_40, aTy_40, aLn_40, arr_40, cnt_43, aTy_43, aLn_43, arr_43, bsv_43, B_X9_year_23, B_X9_year_24, B_X9_year_29, wi_bipush, wi_icmp_eq, B_X9_year_37, fldv_8_15, fds_8_15, wi_putfield, pOk_8_10, wi_istore_n, B_X9_year_47, wi_icmp_ge, fldv_8_20, fds_8_20, wi_iastore, wi_iinc, wi_goto, B_X9_year_66, fldv_8_16, fds_8_16, fldv_8_17, fds_8_17, B_X9_year_95, fldv_8_10, fds_8_10, fldv_8_11, fds_8_11, fldv_8_19, fds_8_19, wi_imul, fldv_8_12, fds_8_12, wi_iadd, fldv_8_13, fds_8_13, B_X9_year_173, pOk_8_22, B_X9_year_180, fldv_8_24, fds_8_24, wi_bastore, B_X9_year_198, no0, no1, nz1, nz2, nz3, nz4, nz5, nz7, nz8, Classical.not_not, bz0, bz1, wi_nil, ld_0, ld_s, isIv_I, isLv_L, isRv_R, true_and, and_true, lset_0, lset_1, lset_s, avw_I, avw_L, avw_R, clr_cons, clr_nil, kst_0, kst_1, kstL_0, kstL_1, addk_I, pA_0, pA_s, pD_0, pD_s, wid_nil, wid_cons, rcv_c, putv_I, putv_L, List.length_cons, List.length_nil, List.set_cons_zero, List.set_cons_succ, not_false_eq_true, Nat.reduceMod, Nat.reduceDiv, Nat.reduceEqDiff, Nat.reduceLT, Nat.reduceLeDiff, Nat.reduceAdd, Nat.reduceSub, reduceIte, Nat.lt_irrefl, Nat.zero_ne_one, Nat.one_ne_zero, Nat.zero_add, List.nil_append, List.cons_append, Option.toList_some, Option.toList_none, forall_const, false_implies, true_implies, false_or, or_false, true_or, or_true, i_le, i_lt, i_eq, i_eq0, i_lt0, i_0le, i_0lt, i_le0, i_in1, i_cl, nI_add, pk_mul, pk_sub, i_div, i_rem, i_sh1, i_bit, i_or, i_and, i_andn, nt_le, nf_le, nt_lt, nf_lt, nt_eq, nf_eq, not_true_eq_false, and_self, and_false, false_and, eq_self, Bool.toNat_true, Bool.toNat_false, i_bool, i_bool1, Bool.false_eq_true, Bool.true_eq_false, reduceCtorEq, i_neg1, i_neg2, i_neg3, i_neg4, i_neg5, i_neg6, i_neg7, i_neg8, i_neg9, i_nega, i_negb, i_negc, i_max2, i_min2, hr, (show gA (xRef 1 S) 34 0 t = -nI 1 from hs)])
      refine c_meets (by decide) ?_
      try simp (disch := omega) only [no0, no1, nz1, nz2, nz3, nz4, nz5, nz7, nz8, Classical.not_not, bz0, bz1, wi_nil, ld_0, ld_s, isIv_I, isLv_L, isRv_R, true_and, and_true, lset_0, lset_1, lset_s, avw_I, avw_L, avw_R, clr_cons, clr_nil, kst_0, kst_1, kstL_0, kstL_1, addk_I, pA_0, pA_s, pD_0, pD_s, wid_nil, wid_cons, rcv_c, putv_I, putv_L, List.length_cons, List.length_nil, List.set_cons_zero, List.set_cons_succ, not_false_eq_true, Nat.reduceMod, Nat.reduceDiv, Nat.reduceEqDiff, Nat.reduceLT, Nat.reduceLeDiff, Nat.reduceAdd, Nat.reduceSub, reduceIte, Nat.lt_irrefl, Nat.zero_ne_one, Nat.one_ne_zero, Nat.zero_add, List.nil_append, List.cons_append, Option.toList_some, Option.toList_none, forall_const, false_implies, true_implies, false_or, or_false, true_or, or_true, i_le, i_lt, i_eq, i_eq0, i_lt0, i_0le, i_0lt, i_le0, i_in1, i_cl, nI_add, pk_mul, pk_sub, i_div, i_rem, i_sh1, i_bit, i_or, i_and, i_andn, nt_le, nf_le, nt_lt, nf_lt, nt_eq, nf_eq, not_true_eq_false, and_self, and_false, false_and, eq_self, Bool.toNat_true, Bool.toNat_false, i_bool, i_bool1, Bool.false_eq_true, Bool.true_eq_false, reduceCtorEq, i_neg1, i_neg2, i_neg3, i_neg4, i_neg5, i_neg6, i_neg7, i_neg8, i_neg9, i_nega, i_negb, i_negc, i_max2, i_min2, wi_nil]
      repeat (
        first
        | refine s_X9_year_0 ?_
        | refine s_X9_year_4 ?_
        | refine s_X9_year_9 ?_
        | refine s_X9_year_23 ?_
        | refine s_X9_year_24 ?_
        | refine s_X9_year_29 ?_
        | refine s_X9_year_37 ?_
        | refine s_X9_year_66 ?_
        | refine s_X9_year_173 ?_
        | refine s_X9_year_198 ?_
        simp (disch := omega) only [B_X9_year_0, wi_iload_n, wi_invokestatic, B_X9_year_4, wi_if_ne, wi_iconst, wi_ireturn, B_X9_year_9, wi_aload_n, wi_getfield, fldv_8_8, fds_8_8, cnt_8, wi_iaload, wi_if_ge, wi_invokevirtual, cnt_34, aTy_34, aLn_34, arr_34, cnt_36, aTy_36, aLn_36, arr_36, cnt_37, aTy_37, aLn_37, arr_37, cnt_38, aTy_38, aLn_38, arr_38, cnt_39, aTy_39, aLn_39, arr_39, cnt_40, aTy_40, aLn_40, arr_40, cnt_43, aTy_43, aLn_43, arr_43, bsv_43, B_X9_year_23, B_X9_year_24, B_X9_year_29, wi_bipush, wi_icmp_eq, B_X9_year_37, fldv_8_15, fds_8_15, wi_putfield, pOk_8_10, wi_istore_n, B_X9_year_47, wi_icmp_ge, fldv_8_20, fds_8_20, wi_iastore, wi_iinc, wi_goto, B_X9_year_66, fldv_8_16, fds_8_16, fldv_8_17, fds_8_17, B_X9_year_95, fldv_8_10, fds_8_10, fldv_8_11, fds_8_11, fldv_8_19, fds_8_19, wi_imul, fldv_8_12, fds_8_12, wi_iadd, fldv_8_13, fds_8_13, B_X9_year_173, pOk_8_22, B_X9_year_180, fldv_8_24, fds_8_24, wi_bastore, B_X9_year_198, no0, no1, nz1, nz2, nz3, nz4, nz5, nz7, nz8, Classical.not_not, bz0, bz1, wi_nil, ld_0, ld_s, isIv_I, isLv_L, isRv_R, true_and, and_true, lset_0, lset_1, lset_s, avw_I, avw_L, avw_R, clr_cons, clr_nil, kst_0, kst_1, kstL_0, kstL_1, addk_I, pA_0, pA_s, pD_0, pD_s, wid_nil, wid_cons, rcv_c, putv_I, putv_L, List.length_cons, List.length_nil, List.set_cons_zero, List.set_cons_succ, not_false_eq_true, Nat.reduceMod, Nat.reduceDiv, Nat.reduceEqDiff, Nat.reduceLT, Nat.reduceLeDiff, Nat.reduceAdd, Nat.reduceSub, reduceIte, Nat.lt_irrefl, Nat.zero_ne_one, Nat.one_ne_zero, Nat.zero_add, List.nil_append, List.cons_append, Option.toList_some, Option.toList_none, forall_const, false_implies, true_implies, false_or, or_false, true_or, or_true, i_le, i_lt, i_eq, i_eq0, i_lt0, i_0le, i_0lt, i_le0, i_in1, i_cl, nI_add, pk_mul, pk_sub, i_div, i_rem, i_sh1, i_bit, i_or, i_and, i_andn, nt_le, nf_le, nt_lt, nf_lt, nt_eq, nf_eq, not_true_eq_false, and_self, and_false, false_and, eq_self, Bool.toNat_true, Bool.toNat_false, i_bool, i_bool1, Bool.false_eq_true, Bool.true_eq_false, reduceCtorEq, i_neg1, i_neg2, i_neg3, i_neg4, i_neg5, i_neg6, i_neg7, i_neg8, i_neg9, i_nega, i_negb, i_negc, i_max2, i_min2])
      exact pm (r_ref h (by decide) Fr.refl)
    · obtain ⟨n, hz⟩ : ∃ z, ts t = z + 1 := ⟨ts t - 1, by omega⟩
      rw [hz, sz_s] at hs
      rw [if_neg (by omega)]
      try simp (disch := omega) only [no0, no1, nz1, nz2, nz3, nz4, nz5, nz7, nz8, Classical.not_not, bz0, bz1, wi_nil, ld_0, ld_s, isIv_I, isLv_L, isRv_R, true_and, and_true, lset_0, lset_1, lset_s, avw_I, avw_L, avw_R, clr_cons, clr_nil, kst_0, kst_1, kstL_0, kstL_1, addk_I, pA_0, pA_s, pD_0, pD_s, wid_nil, wid_cons, rcv_c, putv_I, putv_L, List.length_cons, List.length_nil, List.set_cons_zero, List.set_cons_succ, not_false_eq_true, Nat.reduceMod, Nat.reduceDiv, Nat.reduceEqDiff, Nat.reduceLT, Nat.reduceLeDiff, Nat.reduceAdd, Nat.reduceSub, reduceIte, Nat.lt_irrefl, Nat.zero_ne_one, Nat.one_ne_zero, Nat.zero_add, List.nil_append, List.cons_append, Option.toList_some, Option.toList_none, forall_const, false_implies, true_implies, false_or, or_false, true_or, or_true, i_le, i_lt, i_eq, i_eq0, i_lt0, i_0le, i_0lt, i_le0, i_in1, i_cl, nI_add, pk_mul, pk_sub, i_div, i_rem, i_sh1, i_bit, i_or, i_and, i_andn, nt_le, nf_le, nt_lt, nf_lt, nt_eq, nf_eq, not_true_eq_false, and_self, and_false, false_and, eq_self, Bool.toNat_true, Bool.toNat_false, i_bool, i_bool1, Bool.false_eq_true, Bool.true_eq_false, reduceCtorEq, i_neg1, i_neg2, i_neg3, i_neg4, i_neg5, i_neg6, i_neg7, i_neg8, i_neg9, i_nega, i_negb, i_negc, i_max2, i_min2, wi_nil]
      repeat (
        first
        | refine s_X8_year_0 ?_
        | refine s_X8_year_4 ?_
        | refine s_X8_year_9 ?_
        | refine s_X8_year_17 ?_
        | refine s_X8_year_25 ?_
        | refine s_X8_year_26 ?_
        | refine s_X8_year_38 ?_
        | refine s_X8_year_46 ?_
        | refine s_X8_year_57 ?_
        | refine s_X8_year_68 ?_
        | refine s_X8_year_75 ?_
        simp (disch := omega) only [B_X8_year_0, wi_iload_n, wi_invokestatic, B_X8_year_4, wi_if_ne, wi_iconst, wi_ireturn, B_X8_year_9, wi_aload_n, wi_getfield, fldv_7_1, fds_7_1, cnt_7, wi_invokevirtual, cnt_5, B_X8_year_17, B_X8_year_25, B_X8_year_26, fldv_7_5, fds_7_5, fldv_7_4, fds_7_4, cnt_2, B_X8_year_38, wi_bipush, wi_icmp_eq, B_X8_year_46, fldv_7_2, fds_7_2, cnt_6, B_X8_year_57, fldv_7_3, fds_7_3, B_X8_year_68, fldv_7_6, fds_7_6, cnt_0, B_X8_year_75, fldv_6_7, fds_6_7, no0, no1, nz1, nz2, nz3, nz4, nz5, nz7, nz8, Classical.not_not, bz0, bz1, wi_nil, ld_0, ld_s, isIv_I, isLv_L, isRv_R, true_and, and_true, lset_0, lset_1, lset_s, avw_I, avw_L, avw_R, clr_cons, clr_nil, kst_0, kst_1, kstL_0, kstL_1, addk_I, pA_0, pA_s, pD_0, pD_s, wid_nil, wid_cons, rcv_c, putv_I, putv_L, List.length_cons, List.length_nil, List.set_cons_zero, List.set_cons_succ, not_false_eq_true, Nat.reduceMod, Nat.reduceDiv, Nat.reduceEqDiff, Nat.reduceLT, Nat.reduceLeDiff, Nat.reduceAdd, Nat.reduceSub, reduceIte, Nat.lt_irrefl, Nat.zero_ne_one, Nat.one_ne_zero, Nat.zero_add, List.nil_append, List.cons_append, Option.toList_some, Option.toList_none, forall_const, false_implies, true_implies, false_or, or_false, true_or, or_true, i_le, i_lt, i_eq, i_eq0, i_lt0, i_0le, i_0lt, i_le0, i_in1, i_cl, nI_add, pk_mul, pk_sub, i_div, i_rem, i_sh1, i_bit, i_or, i_and, i_andn, nt_le, nf_le, nt_lt, nf_lt, nt_eq, nf_eq, not_true_eq_false, and_self, and_false, false_and, eq_self, Bool.toNat_true, Bool.toNat_false, i_bool, i_bool1, Bool.false_eq_true, Bool.true_eq_false, reduceCtorEq, i_neg1, i_neg2, i_neg3, i_neg4, i_neg5, i_neg6, i_neg7, i_neg8, i_neg9, i_nega, i_negb, i_negc, i_max2, i_min2])
      refine c_readYear ht4 hz (by omega) h1.1 (h1.2.2 t) (fun S2 Y2 w o l hp y2 yl f2 => ?_) (fun S2 e hp f2 => ?_)
      · have f2 := fs_fry f2
        have hpo := prs_ok hp
        have hn2 : Y2 6 0 = l.length := yl.1.1
        try simp (disch := omega) only [no0, no1, nz1, nz2, nz3, nz4, nz5, nz7, nz8, Classical.not_not, bz0, bz1, wi_nil, ld_0, ld_s, isIv_I, isLv_L, isRv_R, true_and, and_true, lset_0, lset_1, lset_s, avw_I, avw_L, avw_R, clr_cons, clr_nil, kst_0, kst_1, kstL_0, kstL_1, addk_I, pA_0, pA_s, pD_0, pD_s, wid_nil, wid_cons, rcv_c, putv_I, putv_L, List.length_cons, List.length_nil, List.set_cons_zero, List.set_cons_succ, not_false_eq_true, Nat.reduceMod, Nat.reduceDiv, Nat.reduceEqDiff, Nat.reduceLT, Nat.reduceLeDiff, Nat.reduceAdd, Nat.reduceSub, reduceIte, Nat.lt_irrefl, Nat.zero_ne_one, Nat.one_ne_zero, Nat.zero_add, List.nil_append, List.cons_append, Option.toList_some, Option.toList_none, forall_const, false_implies, true_implies, false_or, or_false, true_or, or_true, i_le, i_lt, i_eq, i_eq0, i_lt0, i_0le, i_0lt, i_le0, i_in1, i_cl, nI_add, pk_mul, pk_sub, i_div, i_rem, i_sh1, i_bit, i_or, i_and, i_andn, nt_le, nf_le, nt_lt, nf_lt, nt_eq, nf_eq, not_true_eq_false, and_self, and_false, false_and, eq_self, Bool.toNat_true, Bool.toNat_false, i_bool, i_bool1, Bool.false_eq_true, Bool.true_eq_false, reduceCtorEq, i_neg1, i_neg2, i_neg3, i_neg4, i_neg5, i_neg6, i_neg7, i_neg8, i_neg9, i_nega, i_negb, i_negc, i_max2, i_min2, wi_nil]
        repeat (
          first
          | refine s_X8_year_0 ?_
          | refine s_X8_year_4 ?_
          | refine s_X8_year_9 ?_
          | refine s_X8_year_17 ?_
          | refine s_X8_year_25 ?_
          | refine s_X8_year_26 ?_
          | refine s_X8_year_38 ?_
          | refine s_X8_year_46 ?_
          | refine s_X8_year_57 ?_
          | refine s_X8_year_68 ?_
          | refine s_X8_year_75 ?_
          simp (disch := omega) only [B_X8_year_0, wi_iload_n, wi_invokestatic, B_X8_year_4, wi_if_ne, wi_iconst, wi_ireturn, B_X8_year_9, wi_aload_n, wi_getfield, fldv_7_1, fds_7_1, cnt_7, wi_invokevirtual, cnt_5, B_X8_year_17, B_X8_year_25, B_X8_year_26, fldv_7_5, fds_7_5, fldv_7_4, fds_7_4, cnt_2, B_X8_year_38, wi_bipush, wi_icmp_eq, B_X8_year_46, fldv_7_2, fds_7_2, cnt_6, B_X8_year_57, fldv_7_3, fds_7_3, B_X8_year_68, fldv_7_6, fds_7_6, cnt_0, B_X8_year_75, fldv_6_7, fds_6_7, no0, no1, nz1, nz2, nz3, nz4, nz5, nz7, nz8, Classical.not_not, bz0, bz1, wi_nil, ld_0, ld_s, isIv_I, isLv_L, isRv_R, true_and, and_true, lset_0, lset_1, lset_s, avw_I, avw_L, avw_R, clr_cons, clr_nil, kst_0, kst_1, kstL_0, kstL_1, addk_I, pA_0, pA_s, pD_0, pD_s, wid_nil, wid_cons, rcv_c, putv_I, putv_L, List.length_cons, List.length_nil, List.set_cons_zero, List.set_cons_succ, not_false_eq_true, Nat.reduceMod, Nat.reduceDiv, Nat.reduceEqDiff, Nat.reduceLT, Nat.reduceLeDiff, Nat.reduceAdd, Nat.reduceSub, reduceIte, Nat.lt_irrefl, Nat.zero_ne_one, Nat.one_ne_zero, Nat.zero_add, List.nil_append, List.cons_append, Option.toList_some, Option.toList_none, forall_const, false_implies, true_implies, false_or, or_false, true_or, or_true, i_le, i_lt, i_eq, i_eq0, i_lt0, i_0le, i_0lt, i_le0, i_in1, i_cl, nI_add, pk_mul, pk_sub, i_div, i_rem, i_sh1, i_bit, i_or, i_and, i_andn, nt_le, nf_le, nt_lt, nf_lt, nt_eq, nf_eq, not_true_eq_false, and_self, and_false, false_and, eq_self, Bool.toNat_true, Bool.toNat_false, i_bool, i_bool1, Bool.false_eq_true, Bool.true_eq_false, reduceCtorEq, i_neg1, i_neg2, i_neg3, i_neg4, i_neg5, i_neg6, i_neg7, i_neg8, i_neg9, i_nega, i_negb, i_negc, i_max2, i_min2])
        refine c_become (by decide) (by decide) (by decide) y2 (fun S3 y3 f3 => ?_)
        try simp (disch := omega) only [no0, no1, nz1, nz2, nz3, nz4, nz5, nz7, nz8, Classical.not_not, bz0, bz1, wi_nil, ld_0, ld_s, isIv_I, isLv_L, isRv_R, true_and, and_true, lset_0, lset_1, lset_s, avw_I, avw_L, avw_R, clr_cons, clr_nil, kst_0, kst_1, kstL_0, kstL_1, addk_I, pA_0, pA_s, pD_0, pD_s, wid_nil, wid_cons, rcv_c, putv_I, putv_L, List.length_cons, List.length_nil, List.set_cons_zero, List.set_cons_succ, not_false_eq_true, Nat.reduceMod, Nat.reduceDiv, Nat.reduceEqDiff, Nat.reduceLT, Nat.reduceLeDiff, Nat.reduceAdd, Nat.reduceSub, reduceIte, Nat.lt_irrefl, Nat.zero_ne_one, Nat.one_ne_zero, Nat.zero_add, List.nil_append, List.cons_append, Option.toList_some, Option.toList_none, forall_const, false_implies, true_implies, false_or, or_false, true_or, or_true, i_le, i_lt, i_eq, i_eq0, i_lt0, i_0le, i_0lt, i_le0, i_in1, i_cl, nI_add, pk_mul, pk_sub, i_div, i_rem, i_sh1, i_bit, i_or, i_and, i_andn, nt_le, nf_le, nt_lt, nf_lt, nt_eq, nf_eq, not_true_eq_false, and_self, and_false, false_and, eq_self, Bool.toNat_true, Bool.toNat_false, i_bool, i_bool1, Bool.false_eq_true, Bool.true_eq_false, reduceCtorEq, i_neg1, i_neg2, i_neg3, i_neg4, i_neg5, i_neg6, i_neg7, i_neg8, i_neg9, i_nega, i_negb, i_negc, i_max2, i_min2, wi_nil]
        repeat (
          first
          | refine s_X8_year_0 ?_
          | refine s_X8_year_4 ?_
          | refine s_X8_year_9 ?_
          | refine s_X8_year_17 ?_
          | refine s_X8_year_25 ?_
          | refine s_X8_year_26 ?_
          | refine s_X8_year_38 ?_
          | refine s_X8_year_46 ?_
          | refine s_X8_year_57 ?_
          | refine s_X8_year_68 ?_
          | refine s_X8_year_75 ?_
          simp (disch := omega) only [B_X8_year_0, wi_iload_n, wi_invokestatic, B_X8_year_4, wi_if_ne, wi_iconst, wi_ireturn, B_X8_year_9, wi_aload_n, wi_getfield, fldv_7_1, fds_7_1, cnt_7, wi_invokevirtual, cnt_5, B_X8_year_17, B_X8_year_25, B_X8_year_26, fldv_7_5, fds_7_5, fldv_7_4, fds_7_4, cnt_2, B_X8_year_38, wi_bipush, wi_icmp_eq, B_X8_year_46, fldv_7_2, fds_7_2, cnt_6, B_X8_year_57, fldv_7_3, fds_7_3, B_X8_year_68, fldv_7_6, fds_7_6, cnt_0, B_X8_year_75, fldv_6_7, fds_6_7, no0, no1, nz1, nz2, nz3, nz4, nz5, nz7, nz8, Classical.not_not, bz0, bz1, wi_nil, ld_0, ld_s, isIv_I, isLv_L, isRv_R, true_and, and_true, lset_0, lset_1, lset_s, avw_I, avw_L, avw_R, clr_cons, clr_nil, kst_0, kst_1, kstL_0, kstL_1, addk_I, pA_0, pA_s, pD_0, pD_s, wid_nil, wid_cons, rcv_c, putv_I, putv_L, List.length_cons, List.length_nil, List.set_cons_zero, List.set_cons_succ, not_false_eq_true, Nat.reduceMod, Nat.reduceDiv, Nat.reduceEqDiff, Nat.reduceLT, Nat.reduceLeDiff, Nat.reduceAdd, Nat.reduceSub, reduceIte, Nat.lt_irrefl, Nat.zero_ne_one, Nat.one_ne_zero, Nat.zero_add, List.nil_append, List.cons_append, Option.toList_some, Option.toList_none, forall_const, false_implies, true_implies, false_or, or_false, true_or, or_true, i_le, i_lt, i_eq, i_eq0, i_lt0, i_0le, i_0lt, i_le0, i_in1, i_cl, nI_add, pk_mul, pk_sub, i_div, i_rem, i_sh1, i_bit, i_or, i_and, i_andn, nt_le, nf_le, nt_lt, nf_lt, nt_eq, nf_eq, not_true_eq_false, and_self, and_false, false_and, eq_self, Bool.toNat_true, Bool.toNat_false, i_bool, i_bool1, Bool.false_eq_true, Bool.true_eq_false, reduceCtorEq, i_neg1, i_neg2, i_neg3, i_neg4, i_neg5, i_neg6, i_neg7, i_neg8, i_neg9, i_nega, i_negb, i_negc, i_max2, i_min2])
        refine c_become (by decide) (by decide) (by decide) (yrx_other y2 f3 (by decide)) (fun S4 y4 f4 => ?_)
        try simp (disch := omega) only [no0, no1, nz1, nz2, nz3, nz4, nz5, nz7, nz8, Classical.not_not, bz0, bz1, wi_nil, ld_0, ld_s, isIv_I, isLv_L, isRv_R, true_and, and_true, lset_0, lset_1, lset_s, avw_I, avw_L, avw_R, clr_cons, clr_nil, kst_0, kst_1, kstL_0, kstL_1, addk_I, pA_0, pA_s, pD_0, pD_s, wid_nil, wid_cons, rcv_c, putv_I, putv_L, List.length_cons, List.length_nil, List.set_cons_zero, List.set_cons_succ, not_false_eq_true, Nat.reduceMod, Nat.reduceDiv, Nat.reduceEqDiff, Nat.reduceLT, Nat.reduceLeDiff, Nat.reduceAdd, Nat.reduceSub, reduceIte, Nat.lt_irrefl, Nat.zero_ne_one, Nat.one_ne_zero, Nat.zero_add, List.nil_append, List.cons_append, Option.toList_some, Option.toList_none, forall_const, false_implies, true_implies, false_or, or_false, true_or, or_true, i_le, i_lt, i_eq, i_eq0, i_lt0, i_0le, i_0lt, i_le0, i_in1, i_cl, nI_add, pk_mul, pk_sub, i_div, i_rem, i_sh1, i_bit, i_or, i_and, i_andn, nt_le, nf_le, nt_lt, nf_lt, nt_eq, nf_eq, not_true_eq_false, and_self, and_false, false_and, eq_self, Bool.toNat_true, Bool.toNat_false, i_bool, i_bool1, Bool.false_eq_true, Bool.true_eq_false, reduceCtorEq, i_neg1, i_neg2, i_neg3, i_neg4, i_neg5, i_neg6, i_neg7, i_neg8, i_neg9, i_nega, i_negb, i_negc, i_max2, i_min2, wi_nil]
        repeat (
          first
          | refine s_X8_year_0 ?_
          | refine s_X8_year_4 ?_
          | refine s_X8_year_9 ?_
          | refine s_X8_year_17 ?_
          | refine s_X8_year_25 ?_
          | refine s_X8_year_26 ?_
          | refine s_X8_year_38 ?_
          | refine s_X8_year_46 ?_
          | refine s_X8_year_57 ?_
          | refine s_X8_year_68 ?_
          | refine s_X8_year_75 ?_
          simp (disch := omega) only [B_X8_year_0, wi_iload_n, wi_invokestatic, B_X8_year_4, wi_if_ne, wi_iconst, wi_ireturn, B_X8_year_9, wi_aload_n, wi_getfield, fldv_7_1, fds_7_1, cnt_7, wi_invokevirtual, cnt_5, B_X8_year_17, B_X8_year_25, B_X8_year_26, fldv_7_5, fds_7_5, fldv_7_4, fds_7_4, cnt_2, B_X8_year_38, wi_bipush, wi_icmp_eq, B_X8_year_46, fldv_7_2, fds_7_2, cnt_6, B_X8_year_57, fldv_7_3, fds_7_3, B_X8_year_68, fldv_7_6, fds_7_6, cnt_0, B_X8_year_75, fldv_6_7, fds_6_7, no0, no1, nz1, nz2, nz3, nz4, nz5, nz7, nz8, Classical.not_not, bz0, bz1, wi_nil, ld_0, ld_s, isIv_I, isLv_L, isRv_R, true_and, and_true, lset_0, lset_1, lset_s, avw_I, avw_L, avw_R, clr_cons, clr_nil, kst_0, kst_1, kstL_0, kstL_1, addk_I, pA_0, pA_s, pD_0, pD_s, wid_nil, wid_cons, rcv_c, putv_I, putv_L, List.length_cons, List.length_nil, List.set_cons_zero, List.set_cons_succ, not_false_eq_true, Nat.reduceMod, Nat.reduceDiv, Nat.reduceEqDiff, Nat.reduceLT, Nat.reduceLeDiff, Nat.reduceAdd, Nat.reduceSub, reduceIte, Nat.lt_irrefl, Nat.zero_ne_one, Nat.one_ne_zero, Nat.zero_add, List.nil_append, List.cons_append, Option.toList_some, Option.toList_none, forall_const, false_implies, true_implies, false_or, or_false, true_or, or_true, i_le, i_lt, i_eq, i_eq0, i_lt0, i_0le, i_0lt, i_le0, i_in1, i_cl, nI_add, pk_mul, pk_sub, i_div, i_rem, i_sh1, i_bit, i_or, i_and, i_andn, nt_le, nf_le, nt_lt, nf_lt, nt_eq, nf_eq, not_true_eq_false, and_self, and_false, false_and, eq_self, Bool.toNat_true, Bool.toNat_false, i_bool, i_bool1, Bool.false_eq_true, Bool.true_eq_false, reduceCtorEq, i_neg1, i_neg2, i_neg3, i_neg4, i_neg5, i_neg6, i_neg7, i_neg8, i_neg9, i_nega, i_negb, i_negc, i_max2, i_min2])
        refine c_forget ?_
        try simp (disch := omega) only [no0, no1, nz1, nz2, nz3, nz4, nz5, nz7, nz8, Classical.not_not, bz0, bz1, wi_nil, ld_0, ld_s, isIv_I, isLv_L, isRv_R, true_and, and_true, lset_0, lset_1, lset_s, avw_I, avw_L, avw_R, clr_cons, clr_nil, kst_0, kst_1, kstL_0, kstL_1, addk_I, pA_0, pA_s, pD_0, pD_s, wid_nil, wid_cons, rcv_c, putv_I, putv_L, List.length_cons, List.length_nil, List.set_cons_zero, List.set_cons_succ, not_false_eq_true, Nat.reduceMod, Nat.reduceDiv, Nat.reduceEqDiff, Nat.reduceLT, Nat.reduceLeDiff, Nat.reduceAdd, Nat.reduceSub, reduceIte, Nat.lt_irrefl, Nat.zero_ne_one, Nat.one_ne_zero, Nat.zero_add, List.nil_append, List.cons_append, Option.toList_some, Option.toList_none, forall_const, false_implies, true_implies, false_or, or_false, true_or, or_true, i_le, i_lt, i_eq, i_eq0, i_lt0, i_0le, i_0lt, i_le0, i_in1, i_cl, nI_add, pk_mul, pk_sub, i_div, i_rem, i_sh1, i_bit, i_or, i_and, i_andn, nt_le, nf_le, nt_lt, nf_lt, nt_eq, nf_eq, not_true_eq_false, and_self, and_false, false_and, eq_self, Bool.toNat_true, Bool.toNat_false, i_bool, i_bool1, Bool.false_eq_true, Bool.true_eq_false, reduceCtorEq, i_neg1, i_neg2, i_neg3, i_neg4, i_neg5, i_neg6, i_neg7, i_neg8, i_neg9, i_nega, i_negb, i_negc, i_max2, i_min2, (y_n y4), gI_sI, gI_sL, gI_sA, gL_sI, gL_sL, gL_sA, gA_sI, gA_sL, gA_sA, sA_sA, wi_nil]
        repeat (
          first
          | refine s_X8_year_0 ?_
          | refine s_X8_year_4 ?_
          | refine s_X8_year_9 ?_
          | refine s_X8_year_17 ?_
          | refine s_X8_year_25 ?_
          | refine s_X8_year_26 ?_
          | refine s_X8_year_38 ?_
          | refine s_X8_year_46 ?_
          | refine s_X8_year_57 ?_
          | refine s_X8_year_68 ?_
          | refine s_X8_year_75 ?_
          simp (disch := omega) only [B_X8_year_0, wi_iload_n, wi_invokestatic, B_X8_year_4, wi_if_ne, wi_iconst, wi_ireturn, B_X8_year_9, wi_aload_n, wi_getfield, fldv_7_1, fds_7_1, cnt_7, wi_invokevirtual, cnt_5, B_X8_year_17, B_X8_year_25, B_X8_year_26, fldv_7_5, fds_7_5, fldv_7_4, fds_7_4, cnt_2, B_X8_year_38, wi_bipush, wi_icmp_eq, B_X8_year_46, fldv_7_2, fds_7_2, cnt_6, B_X8_year_57, fldv_7_3, fds_7_3, B_X8_year_68, fldv_7_6, fds_7_6, cnt_0, B_X8_year_75, fldv_6_7, fds_6_7, no0, no1, nz1, nz2, nz3, nz4, nz5, nz7, nz8, Classical.not_not, bz0, bz1, wi_nil, ld_0, ld_s, isIv_I, isLv_L, isRv_R, true_and, and_true, lset_0, lset_1, lset_s, avw_I, avw_L, avw_R, clr_cons, clr_nil, kst_0, kst_1, kstL_0, kstL_1, addk_I, pA_0, pA_s, pD_0, pD_s, wid_nil, wid_cons, rcv_c, putv_I, putv_L, List.length_cons, List.length_nil, List.set_cons_zero, List.set_cons_succ, not_false_eq_true, Nat.reduceMod, Nat.reduceDiv, Nat.reduceEqDiff, Nat.reduceLT, Nat.reduceLeDiff, Nat.reduceAdd, Nat.reduceSub, reduceIte, Nat.lt_irrefl, Nat.zero_ne_one, Nat.one_ne_zero, Nat.zero_add, List.nil_append, List.cons_append, Option.toList_some, Option.toList_none, forall_const, false_implies, true_implies, false_or, or_false, true_or, or_true, i_le, i_lt, i_eq, i_eq0, i_lt0, i_0le, i_0lt, i_le0, i_in1, i_cl, nI_add, pk_mul, pk_sub, i_div, i_rem, i_sh1, i_bit, i_or, i_and, i_andn, nt_le, nf_le, nt_lt, nf_lt, nt_eq, nf_eq, not_true_eq_false, and_self, and_false, false_and, eq_self, Bool.toNat_true, Bool.toNat_false, i_bool, i_bool1, Bool.false_eq_true, Bool.true_eq_false, reduceCtorEq, i_neg1, i_neg2, i_neg3, i_neg4, i_neg5, i_neg6, i_neg7, i_neg8, i_neg9, i_nega, i_negb, i_negc, i_max2, i_min2, (y_n y4), gI_sI, gI_sL, gI_sA, gL_sI, gL_sL, gL_sA, gA_sI, gA_sL, gA_sA, sA_sA])
        refine px ?_
        have y30 : YrX S4 0 Y2 := yrx_other y3 f4 (by decide)
        generalize hS5 : sA (sI S4 0 0 3 (nI 0)) 12 0 (fil (gA S4 12 0) 0 3 (-nI 1)) = S5
        have y50 : YrX S5 0 Y2 := by
          rw [← hS5]
          exact ⟨fun g hg i hi => by rw [gA_sA, if_neg (by omega)]; exact y30.1 g hg i hi, fun t ht => y30.2 t ht⟩
        have y51 : YrX S5 1 Y2 := by
          rw [← hS5]
          exact ⟨fun g hg i hi => by rw [gA_sA, if_neg (by omega)]; exact y4.1 g hg i hi, fun t ht => y4.2 t ht⟩
        have e50 : gI S5 0 0 3 = nI 0 := by rw [← hS5]; rfl
        have e512 : ∀ k, k < 3 → gA S5 12 0 k = -nI 1 := by
          intro k hk
          rw [← hS5, gA_same]
          unfold fil
          rw [if_pos ⟨Nat.zero_le k, hk⟩]
        have f5 : Fr p3 S S5 := by
          rw [← hS5]
          exact ((((f2.mono (fun g h => by unfold p3 at h; unfold p0; simp at h ⊢; exact h.1.1.1)).trans (f3_fy f3)).trans (f3_fy f4)).trans (fr_sI rfl)).trans (fr_sA rfl)
        have hT2 : Tb S5 34 35 4 60 ts tc := tb_fr h1.2.1 f5 rfl rfl
        have hs2 : gA S5 34 0 t = nI n := by rw [f5.2.2 34 0 rfl]; exact hs
        refine x_entry (ls2 := [aR 8 0, aI (nI t), aU]) (Nat.le_of_ble_eq_true rfl) pl_9 rfl (Nat.le_of_ble_eq_true rfl) ?_
        try simp (disch := omega) only [no0, no1, nz1, nz2, nz3, nz4, nz5, nz7, nz8, Classical.not_not, bz0, bz1, wi_nil, ld_0, ld_s, isIv_I, isLv_L, isRv_R, true_and, and_true, lset_0, lset_1, lset_s, avw_I, avw_L, avw_R, clr_cons, clr_nil, kst_0, kst_1, kstL_0, kstL_1, addk_I, pA_0, pA_s, pD_0, pD_s, wid_nil, wid_cons, rcv_c, putv_I, putv_L, List.length_cons, List.length_nil, List.set_cons_zero, List.set_cons_succ, not_false_eq_true, Nat.reduceMod, Nat.reduceDiv, Nat.reduceEqDiff, Nat.reduceLT, Nat.reduceLeDiff, Nat.reduceAdd, Nat.reduceSub, reduceIte, Nat.lt_irrefl, Nat.zero_ne_one, Nat.one_ne_zero, Nat.zero_add, List.nil_append, List.cons_append, Option.toList_some, Option.toList_none, forall_const, false_implies, true_implies, false_or, or_false, true_or, or_true, i_le, i_lt, i_eq, i_eq0, i_lt0, i_0le, i_0lt, i_le0, i_in1, i_cl, nI_add, pk_mul, pk_sub, i_div, i_rem, i_sh1, i_bit, i_or, i_and, i_andn, nt_le, nf_le, nt_lt, nf_lt, nt_eq, nf_eq, not_true_eq_false, and_self, and_false, false_and, eq_self, Bool.toNat_true, Bool.toNat_false, i_bool, i_bool1, Bool.false_eq_true, Bool.true_eq_false, reduceCtorEq, i_neg1, i_neg2, i_neg3, i_neg4, i_neg5, i_neg6, i_neg7, i_neg8, i_neg9, i_nega, i_negb, i_negc, i_max2, i_min2, wi_nil]
        repeat (
          first
          | refine s_X9_year_0 ?_
          | refine s_X9_year_4 ?_
          | refine s_X9_year_9 ?_
          | refine s_X9_year_23 ?_
          | refine s_X9_year_24 ?_
          | refine s_X9_year_29 ?_
          | refine s_X9_year_37 ?_
          | refine s_X9_year_66 ?_
          | refine s_X9_year_173 ?_
          | refine s_X9_year_198 ?_
          simp (disch := omega) only [B_X9_year_0, wi_iload_n, wi_invokestatic, B_X9_year_4, wi_if_ne, wi_iconst, wi_ireturn, B_X9_year_9, wi_aload_n, wi_getfield, fldv_8_8, fds_8_8, cnt_8, wi_iaload, wi_if_ge, wi_invokevirtual, cnt_34, aTy_34, aLn_34, arr_34, cnt_36, aTy_36, aLn_36, arr_36, cnt_37, aTy_37, aLn_37, arr_37, cnt_38, aTy_38, aLn_38, arr_38, cnt_39, aTy_39, aLn_39, arr_39, cnt_40, aTy_40, aLn_40, arr_40, cnt_43, aTy_43, aLn_43, arr_43, bsv_43, B_X9_year_23, B_X9_year_24, B_X9_year_29, wi_bipush, wi_icmp_eq, B_X9_year_37, fldv_8_15, fds_8_15, wi_putfield, pOk_8_10, wi_istore_n, B_X9_year_47, wi_icmp_ge, fldv_8_20, fds_8_20, wi_iastore, wi_iinc, wi_goto, B_X9_year_66, fldv_8_16, fds_8_16, fldv_8_17, fds_8_17, B_X9_year_95, fldv_8_10, fds_8_10, fldv_8_11, fds_8_11, fldv_8_19, fds_8_19, wi_imul, fldv_8_12, fds_8_12, wi_iadd, fldv_8_13, fds_8_13, B_X9_year_173, pOk_8_22, B_X9_year_180, fldv_8_24, fds_8_24, wi_bastore, B_X9_year_198, no0, no1, nz1, nz2, nz3, nz4, nz5, nz7, nz8, Classical.not_not, bz0, bz1, wi_nil, ld_0, ld_s, isIv_I, isLv_L, isRv_R, true_and, and_true, lset_0, lset_1, lset_s, avw_I, avw_L, avw_R, clr_cons, clr_nil, kst_0, kst_1, kstL_0, kstL_1, addk_I, pA_0, pA_s, pD_0, pD_s, wid_nil, wid_cons, rcv_c, putv_I, putv_L, List.length_cons, List.length_nil, List.set_cons_zero, List.set_cons_succ, not_false_eq_true, Nat.reduceMod, Nat.reduceDiv, Nat.reduceEqDiff, Nat.reduceLT, Nat.reduceLeDiff, Nat.reduceAdd, Nat.reduceSub, reduceIte, Nat.lt_irrefl, Nat.zero_ne_one, Nat.one_ne_zero, Nat.zero_add, List.nil_append, List.cons_append, Option.toList_some, Option.toList_none, forall_const, false_implies, true_implies, false_or, or_false, true_or, or_true, i_le, i_lt, i_eq, i_eq0, i_lt0, i_0le, i_0lt, i_le0, i_in1, i_cl, nI_add, pk_mul, pk_sub, i_div, i_rem, i_sh1, i_bit, i_or, i_and, i_andn, nt_le, nf_le, nt_lt, nf_lt, nt_eq, nf_eq, not_true_eq_false, and_self, and_false, false_and, eq_self, Bool.toNat_true, Bool.toNat_false, i_bool, i_bool1, Bool.false_eq_true, Bool.true_eq_false, reduceCtorEq, i_neg1, i_neg2, i_neg3, i_neg4, i_neg5, i_neg6, i_neg7, i_neg8, i_neg9, i_nega, i_negb, i_negc, i_max2, i_min2])
        refine c_mText ?_
        try simp (disch := omega) only [no0, no1, nz1, nz2, nz3, nz4, nz5, nz7, nz8, Classical.not_not, bz0, bz1, wi_nil, ld_0, ld_s, isIv_I, isLv_L, isRv_R, true_and, and_true, lset_0, lset_1, lset_s, avw_I, avw_L, avw_R, clr_cons, clr_nil, kst_0, kst_1, kstL_0, kstL_1, addk_I, pA_0, pA_s, pD_0, pD_s, wid_nil, wid_cons, rcv_c, putv_I, putv_L, List.length_cons, List.length_nil, List.set_cons_zero, List.set_cons_succ, not_false_eq_true, Nat.reduceMod, Nat.reduceDiv, Nat.reduceEqDiff, Nat.reduceLT, Nat.reduceLeDiff, Nat.reduceAdd, Nat.reduceSub, reduceIte, Nat.lt_irrefl, Nat.zero_ne_one, Nat.one_ne_zero, Nat.zero_add, List.nil_append, List.cons_append, Option.toList_some, Option.toList_none, forall_const, false_implies, true_implies, false_or, or_false, true_or, or_true, i_le, i_lt, i_eq, i_eq0, i_lt0, i_0le, i_0lt, i_le0, i_in1, i_cl, nI_add, pk_mul, pk_sub, i_div, i_rem, i_sh1, i_bit, i_or, i_and, i_andn, nt_le, nf_le, nt_lt, nf_lt, nt_eq, nf_eq, not_true_eq_false, and_self, and_false, false_and, eq_self, Bool.toNat_true, Bool.toNat_false, i_bool, i_bool1, Bool.false_eq_true, Bool.true_eq_false, reduceCtorEq, i_neg1, i_neg2, i_neg3, i_neg4, i_neg5, i_neg6, i_neg7, i_neg8, i_neg9, i_nega, i_negb, i_negc, i_max2, i_min2, hr, hs2, wi_nil]
        repeat (
          first
          | refine s_X9_year_0 ?_
          | refine s_X9_year_4 ?_
          | refine s_X9_year_9 ?_
          | refine s_X9_year_23 ?_
          | refine s_X9_year_24 ?_
          | refine s_X9_year_29 ?_
          | refine s_X9_year_37 ?_
          | refine s_X9_year_66 ?_
          | refine s_X9_year_173 ?_
          | refine s_X9_year_198 ?_
          simp (disch := omega) only [B_X9_year_0, wi_iload_n, wi_invokestatic, B_X9_year_4, wi_if_ne, wi_iconst, wi_ireturn, B_X9_year_9, wi_aload_n, wi_getfield, fldv_8_8, fds_8_8, cnt_8, wi_iaload, wi_if_ge, wi_invokevirtual, cnt_34, aTy_34, aLn_34, arr_34, cnt_36, aTy_36, aLn_36, arr_36, cnt_37, aTy_37, aLn_37, arr_37, cnt_38, aTy_38, aLn_38, arr_38, cnt_39, aTy_39, aLn_39, arr_39, cnt_40, aTy_40, aLn_40, arr_40, cnt_43, aTy_43, aLn_43, arr_43, bsv_43, B_X9_year_23, B_X9_year_24, B_X9_year_29, wi_bipush, wi_icmp_eq, B_X9_year_37, fldv_8_15, fds_8_15, wi_putfield, pOk_8_10, wi_istore_n, B_X9_year_47, wi_icmp_ge, fldv_8_20, fds_8_20, wi_iastore, wi_iinc, wi_goto, B_X9_year_66, fldv_8_16, fds_8_16, fldv_8_17, fds_8_17, B_X9_year_95, fldv_8_10, fds_8_10, fldv_8_11, fds_8_11, fldv_8_19, fds_8_19, wi_imul, fldv_8_12, fds_8_12, wi_iadd, fldv_8_13, fds_8_13, B_X9_year_173, pOk_8_22, B_X9_year_180, fldv_8_24, fds_8_24, wi_bastore, B_X9_year_198, no0, no1, nz1, nz2, nz3, nz4, nz5, nz7, nz8, Classical.not_not, bz0, bz1, wi_nil, ld_0, ld_s, isIv_I, isLv_L, isRv_R, true_and, and_true, lset_0, lset_1, lset_s, avw_I, avw_L, avw_R, clr_cons, clr_nil, kst_0, kst_1, kstL_0, kstL_1, addk_I, pA_0, pA_s, pD_0, pD_s, wid_nil, wid_cons, rcv_c, putv_I, putv_L, List.length_cons, List.length_nil, List.set_cons_zero, List.set_cons_succ, not_false_eq_true, Nat.reduceMod, Nat.reduceDiv, Nat.reduceEqDiff, Nat.reduceLT, Nat.reduceLeDiff, Nat.reduceAdd, Nat.reduceSub, reduceIte, Nat.lt_irrefl, Nat.zero_ne_one, Nat.one_ne_zero, Nat.zero_add, List.nil_append, List.cons_append, Option.toList_some, Option.toList_none, forall_const, false_implies, true_implies, false_or, or_false, true_or, or_true, i_le, i_lt, i_eq, i_eq0, i_lt0, i_0le, i_0lt, i_le0, i_in1, i_cl, nI_add, pk_mul, pk_sub, i_div, i_rem, i_sh1, i_bit, i_or, i_and, i_andn, nt_le, nf_le, nt_lt, nf_lt, nt_eq, nf_eq, not_true_eq_false, and_self, and_false, false_and, eq_self, Bool.toNat_true, Bool.toNat_false, i_bool, i_bool1, Bool.false_eq_true, Bool.true_eq_false, reduceCtorEq, i_neg1, i_neg2, i_neg3, i_neg4, i_neg5, i_neg6, i_neg7, i_neg8, i_neg9, i_nega, i_negb, i_negc, i_max2, i_min2, hr, hs2])
        refine c_faultOf ht4 hz (by omega) (h1.2.2 t) hT2 (fun S6 w2 o2 l2 hp2 dl hw ho f6 => ?_) (fun S6 e2 hp2 f6 => ?_)
        · have e := hp.symm.trans hp2
          have e := Sum.inr.inj e
          simp only [Prod.mk.injEq] at e
          obtain ⟨rfl, rfl, rfl⟩ := e
          have y60 := yrx0_fr y50 f6 rfl
          have y61 := yrx1_fr y51 f6 rfl
          have e60 : gI S6 0 0 3 = nI 0 := (f6.1 0 0 3 rfl).trans e50
          have e612 : gA S6 12 0 = gA S5 12 0 := f6.2.2 12 0 rfl
          have f56 : Fr p3 S S6 := f5.trans (f6.mono (fun g h => by unfold p3 at h; unfold p0; simp at h ⊢; exact h.1.1.1))
          try simp (disch := omega) only [no0, no1, nz1, nz2, nz3, nz4, nz5, nz7, nz8, Classical.not_not, bz0, bz1, wi_nil, ld_0, ld_s, isIv_I, isLv_L, isRv_R, true_and, and_true, lset_0, lset_1, lset_s, avw_I, avw_L, avw_R, clr_cons, clr_nil, kst_0, kst_1, kstL_0, kstL_1, addk_I, pA_0, pA_s, pD_0, pD_s, wid_nil, wid_cons, rcv_c, putv_I, putv_L, List.length_cons, List.length_nil, List.set_cons_zero, List.set_cons_succ, not_false_eq_true, Nat.reduceMod, Nat.reduceDiv, Nat.reduceEqDiff, Nat.reduceLT, Nat.reduceLeDiff, Nat.reduceAdd, Nat.reduceSub, reduceIte, Nat.lt_irrefl, Nat.zero_ne_one, Nat.one_ne_zero, Nat.zero_add, List.nil_append, List.cons_append, Option.toList_some, Option.toList_none, forall_const, false_implies, true_implies, false_or, or_false, true_or, or_true, i_le, i_lt, i_eq, i_eq0, i_lt0, i_0le, i_0lt, i_le0, i_in1, i_cl, nI_add, pk_mul, pk_sub, i_div, i_rem, i_sh1, i_bit, i_or, i_and, i_andn, nt_le, nf_le, nt_lt, nf_lt, nt_eq, nf_eq, not_true_eq_false, and_self, and_false, false_and, eq_self, Bool.toNat_true, Bool.toNat_false, i_bool, i_bool1, Bool.false_eq_true, Bool.true_eq_false, reduceCtorEq, i_neg1, i_neg2, i_neg3, i_neg4, i_neg5, i_neg6, i_neg7, i_neg8, i_neg9, i_nega, i_negb, i_negc, i_max2, i_min2, dl.1, gI_sI, gI_sL, gI_sA, gL_sI, gL_sL, gL_sA, gA_sI, gA_sL, gA_sA, sA_sA, wi_nil]
          repeat (
            first
            | refine s_X9_year_0 ?_
            | refine s_X9_year_4 ?_
            | refine s_X9_year_9 ?_
            | refine s_X9_year_23 ?_
            | refine s_X9_year_24 ?_
            | refine s_X9_year_29 ?_
            | refine s_X9_year_37 ?_
            | refine s_X9_year_66 ?_
            | refine s_X9_year_173 ?_
            | refine s_X9_year_198 ?_
            simp (disch := omega) only [B_X9_year_0, wi_iload_n, wi_invokestatic, B_X9_year_4, wi_if_ne, wi_iconst, wi_ireturn, B_X9_year_9, wi_aload_n, wi_getfield, fldv_8_8, fds_8_8, cnt_8, wi_iaload, wi_if_ge, wi_invokevirtual, cnt_34, aTy_34, aLn_34, arr_34, cnt_36, aTy_36, aLn_36, arr_36, cnt_37, aTy_37, aLn_37, arr_37, cnt_38, aTy_38, aLn_38, arr_38, cnt_39, aTy_39, aLn_39, arr_39, cnt_40, aTy_40, aLn_40, arr_40, cnt_43, aTy_43, aLn_43, arr_43, bsv_43, B_X9_year_23, B_X9_year_24, B_X9_year_29, wi_bipush, wi_icmp_eq, B_X9_year_37, fldv_8_15, fds_8_15, wi_putfield, pOk_8_10, wi_istore_n, B_X9_year_47, wi_icmp_ge, fldv_8_20, fds_8_20, wi_iastore, wi_iinc, wi_goto, B_X9_year_66, fldv_8_16, fds_8_16, fldv_8_17, fds_8_17, B_X9_year_95, fldv_8_10, fds_8_10, fldv_8_11, fds_8_11, fldv_8_19, fds_8_19, wi_imul, fldv_8_12, fds_8_12, wi_iadd, fldv_8_13, fds_8_13, B_X9_year_173, pOk_8_22, B_X9_year_180, fldv_8_24, fds_8_24, wi_bastore, B_X9_year_198, no0, no1, nz1, nz2, nz3, nz4, nz5, nz7, nz8, Classical.not_not, bz0, bz1, wi_nil, ld_0, ld_s, isIv_I, isLv_L, isRv_R, true_and, and_true, lset_0, lset_1, lset_s, avw_I, avw_L, avw_R, clr_cons, clr_nil, kst_0, kst_1, kstL_0, kstL_1, addk_I, pA_0, pA_s, pD_0, pD_s, wid_nil, wid_cons, rcv_c, putv_I, putv_L, List.length_cons, List.length_nil, List.set_cons_zero, List.set_cons_succ, not_false_eq_true, Nat.reduceMod, Nat.reduceDiv, Nat.reduceEqDiff, Nat.reduceLT, Nat.reduceLeDiff, Nat.reduceAdd, Nat.reduceSub, reduceIte, Nat.lt_irrefl, Nat.zero_ne_one, Nat.one_ne_zero, Nat.zero_add, List.nil_append, List.cons_append, Option.toList_some, Option.toList_none, forall_const, false_implies, true_implies, false_or, or_false, true_or, or_true, i_le, i_lt, i_eq, i_eq0, i_lt0, i_0le, i_0lt, i_le0, i_in1, i_cl, nI_add, pk_mul, pk_sub, i_div, i_rem, i_sh1, i_bit, i_or, i_and, i_andn, nt_le, nf_le, nt_lt, nf_lt, nt_eq, nf_eq, not_true_eq_false, and_self, and_false, false_and, eq_self, Bool.toNat_true, Bool.toNat_false, i_bool, i_bool1, Bool.false_eq_true, Bool.true_eq_false, reduceCtorEq, i_neg1, i_neg2, i_neg3, i_neg4, i_neg5, i_neg6, i_neg7, i_neg8, i_neg9, i_nega, i_negb, i_negc, i_max2, i_min2, dl.1, gI_sI, gI_sL, gI_sA, gL_sI, gL_sL, gL_sA, gA_sI, gA_sL, gA_sA, sA_sA])
          refine l_my1 19 0 _ rfl ?_
          try simp (disch := omega) only [no0, no1, nz1, nz2, nz3, nz4, nz5, nz7, nz8, Classical.not_not, bz0, bz1, wi_nil, ld_0, ld_s, isIv_I, isLv_L, isRv_R, true_and, and_true, lset_0, lset_1, lset_s, avw_I, avw_L, avw_R, clr_cons, clr_nil, kst_0, kst_1, kstL_0, kstL_1, addk_I, pA_0, pA_s, pD_0, pD_s, wid_nil, wid_cons, rcv_c, putv_I, putv_L, List.length_cons, List.length_nil, List.set_cons_zero, List.set_cons_succ, not_false_eq_true, Nat.reduceMod, Nat.reduceDiv, Nat.reduceEqDiff, Nat.reduceLT, Nat.reduceLeDiff, Nat.reduceAdd, Nat.reduceSub, reduceIte, Nat.lt_irrefl, Nat.zero_ne_one, Nat.one_ne_zero, Nat.zero_add, List.nil_append, List.cons_append, Option.toList_some, Option.toList_none, forall_const, false_implies, true_implies, false_or, or_false, true_or, or_true, i_le, i_lt, i_eq, i_eq0, i_lt0, i_0le, i_0lt, i_le0, i_in1, i_cl, nI_add, pk_mul, pk_sub, i_div, i_rem, i_sh1, i_bit, i_or, i_and, i_andn, nt_le, nf_le, nt_lt, nf_lt, nt_eq, nf_eq, not_true_eq_false, and_self, and_false, false_and, eq_self, Bool.toNat_true, Bool.toNat_false, i_bool, i_bool1, Bool.false_eq_true, Bool.true_eq_false, reduceCtorEq, i_neg1, i_neg2, i_neg3, i_neg4, i_neg5, i_neg6, i_neg7, i_neg8, i_neg9, i_nega, i_negb, i_negc, i_max2, i_min2, hw, ho, gI_sI, gI_sL, gI_sA, gL_sI, gL_sL, gL_sA, gA_sI, gA_sL, gA_sA, sA_sA, pk_us, pk_un, wi_nil]
          repeat (
            first
            | refine s_X9_year_0 ?_
            | refine s_X9_year_4 ?_
            | refine s_X9_year_9 ?_
            | refine s_X9_year_23 ?_
            | refine s_X9_year_24 ?_
            | refine s_X9_year_29 ?_
            | refine s_X9_year_37 ?_
            | refine s_X9_year_66 ?_
            | refine s_X9_year_173 ?_
            | refine s_X9_year_198 ?_
            simp (disch := omega) only [B_X9_year_0, wi_iload_n, wi_invokestatic, B_X9_year_4, wi_if_ne, wi_iconst, wi_ireturn, B_X9_year_9, wi_aload_n, wi_getfield, fldv_8_8, fds_8_8, cnt_8, wi_iaload, wi_if_ge, wi_invokevirtual, cnt_34, aTy_34, aLn_34, arr_34, cnt_36, aTy_36, aLn_36, arr_36, cnt_37, aTy_37, aLn_37, arr_37, cnt_38, aTy_38, aLn_38, arr_38, cnt_39, aTy_39, aLn_39, arr_39, cnt_40, aTy_40, aLn_40, arr_40, cnt_43, aTy_43, aLn_43, arr_43, bsv_43, B_X9_year_23, B_X9_year_24, B_X9_year_29, wi_bipush, wi_icmp_eq, B_X9_year_37, fldv_8_15, fds_8_15, wi_putfield, pOk_8_10, wi_istore_n, B_X9_year_47, wi_icmp_ge, fldv_8_20, fds_8_20, wi_iastore, wi_iinc, wi_goto, B_X9_year_66, fldv_8_16, fds_8_16, fldv_8_17, fds_8_17, B_X9_year_95, fldv_8_10, fds_8_10, fldv_8_11, fds_8_11, fldv_8_19, fds_8_19, wi_imul, fldv_8_12, fds_8_12, wi_iadd, fldv_8_13, fds_8_13, B_X9_year_173, pOk_8_22, B_X9_year_180, fldv_8_24, fds_8_24, wi_bastore, B_X9_year_198, no0, no1, nz1, nz2, nz3, nz4, nz5, nz7, nz8, Classical.not_not, bz0, bz1, wi_nil, ld_0, ld_s, isIv_I, isLv_L, isRv_R, true_and, and_true, lset_0, lset_1, lset_s, avw_I, avw_L, avw_R, clr_cons, clr_nil, kst_0, kst_1, kstL_0, kstL_1, addk_I, pA_0, pA_s, pD_0, pD_s, wid_nil, wid_cons, rcv_c, putv_I, putv_L, List.length_cons, List.length_nil, List.set_cons_zero, List.set_cons_succ, not_false_eq_true, Nat.reduceMod, Nat.reduceDiv, Nat.reduceEqDiff, Nat.reduceLT, Nat.reduceLeDiff, Nat.reduceAdd, Nat.reduceSub, reduceIte, Nat.lt_irrefl, Nat.zero_ne_one, Nat.one_ne_zero, Nat.zero_add, List.nil_append, List.cons_append, Option.toList_some, Option.toList_none, forall_const, false_implies, true_implies, false_or, or_false, true_or, or_true, i_le, i_lt, i_eq, i_eq0, i_lt0, i_0le, i_0lt, i_le0, i_in1, i_cl, nI_add, pk_mul, pk_sub, i_div, i_rem, i_sh1, i_bit, i_or, i_and, i_andn, nt_le, nf_le, nt_lt, nf_lt, nt_eq, nf_eq, not_true_eq_false, and_self, and_false, false_and, eq_self, Bool.toNat_true, Bool.toNat_false, i_bool, i_bool1, Bool.false_eq_true, Bool.true_eq_false, reduceCtorEq, i_neg1, i_neg2, i_neg3, i_neg4, i_neg5, i_neg6, i_neg7, i_neg8, i_neg9, i_nega, i_negb, i_negc, i_max2, i_min2, hw, ho, gI_sI, gI_sL, gI_sA, gL_sI, gL_sL, gL_sA, gA_sI, gA_sL, gA_sA, sA_sA, pk_us, pk_un])
          have hd := dl.2
          refine l_my2 (S0 := sI S6 8 0 10 (nI l.length)) hpo.2.2.2.1 yl hd rfl (fun S7 g40 gb g10 f7 fm7 => ?_) l.length 0 _ (by omega) (fun p hp => ?_) (fun j hj => absurd hj (Nat.not_lt_zero j)) rfl rfl (fr_sA rfl) (fm_sA (by decide))
          · try simp (disch := omega) only [no0, no1, nz1, nz2, nz3, nz4, nz5, nz7, nz8, Classical.not_not, bz0, bz1, wi_nil, ld_0, ld_s, isIv_I, isLv_L, isRv_R, true_and, and_true, lset_0, lset_1, lset_s, avw_I, avw_L, avw_R, clr_cons, clr_nil, kst_0, kst_1, kstL_0, kstL_1, addk_I, pA_0, pA_s, pD_0, pD_s, wid_nil, wid_cons, rcv_c, putv_I, putv_L, List.length_cons, List.length_nil, List.set_cons_zero, List.set_cons_succ, not_false_eq_true, Nat.reduceMod, Nat.reduceDiv, Nat.reduceEqDiff, Nat.reduceLT, Nat.reduceLeDiff, Nat.reduceAdd, Nat.reduceSub, reduceIte, Nat.lt_irrefl, Nat.zero_ne_one, Nat.one_ne_zero, Nat.zero_add, List.nil_append, List.cons_append, Option.toList_some, Option.toList_none, forall_const, false_implies, true_implies, false_or, or_false, true_or, or_true, i_le, i_lt, i_eq, i_eq0, i_lt0, i_0le, i_0lt, i_le0, i_in1, i_cl, nI_add, pk_mul, pk_sub, i_div, i_rem, i_sh1, i_bit, i_or, i_and, i_andn, nt_le, nf_le, nt_lt, nf_lt, nt_eq, nf_eq, not_true_eq_false, and_self, and_false, false_and, eq_self, Bool.toNat_true, Bool.toNat_false, i_bool, i_bool1, Bool.false_eq_true, Bool.true_eq_false, reduceCtorEq, i_neg1, i_neg2, i_neg3, i_neg4, i_neg5, i_neg6, i_neg7, i_neg8, i_neg9, i_nega, i_negb, i_negc, i_max2, i_min2, gI_sI, gI_sL, gI_sA, gL_sI, gL_sL, gL_sA, gA_sI, gA_sL, gA_sA, sA_sA, wi_nil]
            repeat (
              first
              | refine s_X9_year_0 ?_
              | refine s_X9_year_4 ?_
              | refine s_X9_year_9 ?_
              | refine s_X9_year_23 ?_
              | refine s_X9_year_24 ?_
              | refine s_X9_year_29 ?_
              | refine s_X9_year_37 ?_
              | refine s_X9_year_66 ?_
              | refine s_X9_year_173 ?_
              | refine s_X9_year_198 ?_
              simp (disch := omega) only [B_X9_year_0, wi_iload_n, wi_invokestatic, B_X9_year_4, wi_if_ne, wi_iconst, wi_ireturn, B_X9_year_9, wi_aload_n, wi_getfield, fldv_8_8, fds_8_8, cnt_8, wi_iaload, wi_if_ge, wi_invokevirtual, cnt_34, aTy_34, aLn_34, arr_34, cnt_36, aTy_36, aLn_36, arr_36, cnt_37, aTy_37, aLn_37, arr_37, cnt_38, aTy_38, aLn_38, arr_38, cnt_39, aTy_39, aLn_39, arr_39, cnt_40, aTy_40, aLn_40, arr_40, cnt_43, aTy_43, aLn_43, arr_43, bsv_43, B_X9_year_23, B_X9_year_24, B_X9_year_29, wi_bipush, wi_icmp_eq, B_X9_year_37, fldv_8_15, fds_8_15, wi_putfield, pOk_8_10, wi_istore_n, B_X9_year_47, wi_icmp_ge, fldv_8_20, fds_8_20, wi_iastore, wi_iinc, wi_goto, B_X9_year_66, fldv_8_16, fds_8_16, fldv_8_17, fds_8_17, B_X9_year_95, fldv_8_10, fds_8_10, fldv_8_11, fds_8_11, fldv_8_19, fds_8_19, wi_imul, fldv_8_12, fds_8_12, wi_iadd, fldv_8_13, fds_8_13, B_X9_year_173, pOk_8_22, B_X9_year_180, fldv_8_24, fds_8_24, wi_bastore, B_X9_year_198, no0, no1, nz1, nz2, nz3, nz4, nz5, nz7, nz8, Classical.not_not, bz0, bz1, wi_nil, ld_0, ld_s, isIv_I, isLv_L, isRv_R, true_and, and_true, lset_0, lset_1, lset_s, avw_I, avw_L, avw_R, clr_cons, clr_nil, kst_0, kst_1, kstL_0, kstL_1, addk_I, pA_0, pA_s, pD_0, pD_s, wid_nil, wid_cons, rcv_c, putv_I, putv_L, List.length_cons, List.length_nil, List.set_cons_zero, List.set_cons_succ, not_false_eq_true, Nat.reduceMod, Nat.reduceDiv, Nat.reduceEqDiff, Nat.reduceLT, Nat.reduceLeDiff, Nat.reduceAdd, Nat.reduceSub, reduceIte, Nat.lt_irrefl, Nat.zero_ne_one, Nat.one_ne_zero, Nat.zero_add, List.nil_append, List.cons_append, Option.toList_some, Option.toList_none, forall_const, false_implies, true_implies, false_or, or_false, true_or, or_true, i_le, i_lt, i_eq, i_eq0, i_lt0, i_0le, i_0lt, i_le0, i_in1, i_cl, nI_add, pk_mul, pk_sub, i_div, i_rem, i_sh1, i_bit, i_or, i_and, i_andn, nt_le, nf_le, nt_lt, nf_lt, nt_eq, nf_eq, not_true_eq_false, and_self, and_false, false_and, eq_self, Bool.toNat_true, Bool.toNat_false, i_bool, i_bool1, Bool.false_eq_true, Bool.true_eq_false, reduceCtorEq, i_neg1, i_neg2, i_neg3, i_neg4, i_neg5, i_neg6, i_neg7, i_neg8, i_neg9, i_nega, i_negb, i_negc, i_max2, i_min2, gI_sI, gI_sL, gI_sA, gL_sI, gL_sL, gL_sA, gA_sI, gA_sL, gA_sA, sA_sA])
            refine l_my3 3 0 _ rfl ?_
            try simp (disch := omega) only [no0, no1, nz1, nz2, nz3, nz4, nz5, nz7, nz8, Classical.not_not, bz0, bz1, wi_nil, ld_0, ld_s, isIv_I, isLv_L, isRv_R, true_and, and_true, lset_0, lset_1, lset_s, avw_I, avw_L, avw_R, clr_cons, clr_nil, kst_0, kst_1, kstL_0, kstL_1, addk_I, pA_0, pA_s, pD_0, pD_s, wid_nil, wid_cons, rcv_c, putv_I, putv_L, List.length_cons, List.length_nil, List.set_cons_zero, List.set_cons_succ, not_false_eq_true, Nat.reduceMod, Nat.reduceDiv, Nat.reduceEqDiff, Nat.reduceLT, Nat.reduceLeDiff, Nat.reduceAdd, Nat.reduceSub, reduceIte, Nat.lt_irrefl, Nat.zero_ne_one, Nat.one_ne_zero, Nat.zero_add, List.nil_append, List.cons_append, Option.toList_some, Option.toList_none, forall_const, false_implies, true_implies, false_or, or_false, true_or, or_true, i_le, i_lt, i_eq, i_eq0, i_lt0, i_0le, i_0lt, i_le0, i_in1, i_cl, nI_add, pk_mul, pk_sub, i_div, i_rem, i_sh1, i_bit, i_or, i_and, i_andn, nt_le, nf_le, nt_lt, nf_lt, nt_eq, nf_eq, not_true_eq_false, and_self, and_false, false_and, eq_self, Bool.toNat_true, Bool.toNat_false, i_bool, i_bool1, Bool.false_eq_true, Bool.true_eq_false, reduceCtorEq, i_neg1, i_neg2, i_neg3, i_neg4, i_neg5, i_neg6, i_neg7, i_neg8, i_neg9, i_nega, i_negb, i_negc, i_max2, i_min2, g10, gI_sI, gI_sL, gI_sA, gL_sI, gL_sL, gL_sA, gA_sI, gA_sL, gA_sA, sA_sA, wi_nil]
            repeat (
              first
              | refine s_X9_year_0 ?_
              | refine s_X9_year_4 ?_
              | refine s_X9_year_9 ?_
              | refine s_X9_year_23 ?_
              | refine s_X9_year_24 ?_
              | refine s_X9_year_29 ?_
              | refine s_X9_year_37 ?_
              | refine s_X9_year_66 ?_
              | refine s_X9_year_173 ?_
              | refine s_X9_year_198 ?_
              simp (disch := omega) only [B_X9_year_0, wi_iload_n, wi_invokestatic, B_X9_year_4, wi_if_ne, wi_iconst, wi_ireturn, B_X9_year_9, wi_aload_n, wi_getfield, fldv_8_8, fds_8_8, cnt_8, wi_iaload, wi_if_ge, wi_invokevirtual, cnt_34, aTy_34, aLn_34, arr_34, cnt_36, aTy_36, aLn_36, arr_36, cnt_37, aTy_37, aLn_37, arr_37, cnt_38, aTy_38, aLn_38, arr_38, cnt_39, aTy_39, aLn_39, arr_39, cnt_40, aTy_40, aLn_40, arr_40, cnt_43, aTy_43, aLn_43, arr_43, bsv_43, B_X9_year_23, B_X9_year_24, B_X9_year_29, wi_bipush, wi_icmp_eq, B_X9_year_37, fldv_8_15, fds_8_15, wi_putfield, pOk_8_10, wi_istore_n, B_X9_year_47, wi_icmp_ge, fldv_8_20, fds_8_20, wi_iastore, wi_iinc, wi_goto, B_X9_year_66, fldv_8_16, fds_8_16, fldv_8_17, fds_8_17, B_X9_year_95, fldv_8_10, fds_8_10, fldv_8_11, fds_8_11, fldv_8_19, fds_8_19, wi_imul, fldv_8_12, fds_8_12, wi_iadd, fldv_8_13, fds_8_13, B_X9_year_173, pOk_8_22, B_X9_year_180, fldv_8_24, fds_8_24, wi_bastore, B_X9_year_198, no0, no1, nz1, nz2, nz3, nz4, nz5, nz7, nz8, Classical.not_not, bz0, bz1, wi_nil, ld_0, ld_s, isIv_I, isLv_L, isRv_R, true_and, and_true, lset_0, lset_1, lset_s, avw_I, avw_L, avw_R, clr_cons, clr_nil, kst_0, kst_1, kstL_0, kstL_1, addk_I, pA_0, pA_s, pD_0, pD_s, wid_nil, wid_cons, rcv_c, putv_I, putv_L, List.length_cons, List.length_nil, List.set_cons_zero, List.set_cons_succ, not_false_eq_true, Nat.reduceMod, Nat.reduceDiv, Nat.reduceEqDiff, Nat.reduceLT, Nat.reduceLeDiff, Nat.reduceAdd, Nat.reduceSub, reduceIte, Nat.lt_irrefl, Nat.zero_ne_one, Nat.one_ne_zero, Nat.zero_add, List.nil_append, List.cons_append, Option.toList_some, Option.toList_none, forall_const, false_implies, true_implies, false_or, or_false, true_or, or_true, i_le, i_lt, i_eq, i_eq0, i_lt0, i_0le, i_0lt, i_le0, i_in1, i_cl, nI_add, pk_mul, pk_sub, i_div, i_rem, i_sh1, i_bit, i_or, i_and, i_andn, nt_le, nf_le, nt_lt, nf_lt, nt_eq, nf_eq, not_true_eq_false, and_self, and_false, false_and, eq_self, Bool.toNat_true, Bool.toNat_false, i_bool, i_bool1, Bool.false_eq_true, Bool.true_eq_false, reduceCtorEq, i_neg1, i_neg2, i_neg3, i_neg4, i_neg5, i_neg6, i_neg7, i_neg8, i_neg9, i_nega, i_negb, i_negc, i_max2, i_min2, g10, gI_sI, gI_sL, gI_sA, gL_sI, gL_sL, gL_sA, gA_sI, gA_sL, gA_sA, sA_sA])
            refine pmE (by rw [hn2]) ?_
            have y70 := yrx_fm (yrx_fm y60 (fm_sI (f := 10) (v := nI l.length))) fm7
            have y71 := yrx_fm (yrx_fm y61 (fm_sI (f := 10) (v := nI l.length))) fm7
            have e70 : gI S7 0 0 3 = nI 0 := (fm7.1 0 0 3 (by decide)).trans e60
            have e712 : gA S7 12 0 = gA S6 12 0 := fm7.2.2 12 0 (by decide)
            generalize hS8 : sA (sI S7 8 0 22 (nI 0)) 43 0 (fil (gA S7 43 0) 0 3 (nI 0)) = S8
            have fm8 : FM S7 S8 := by
              rw [← hS8]
              exact fm_sI.trans (fm_sA (by decide))
            refine rr_3 (Y0 := Y2) (as := []) (kp := fun _ => none) h (((f56.trans (fr_sI (k := 8) (i := 0) (f := 10) (v := nI l.length) rfl)).trans f7).trans (by rw [← hS8]; exact (fr_sI rfl).trans (fr_sA rfl))) ⟨⟨yrx_fm y70 fm8, yrx_fm y71 fm8, ⟨(fm8.1 0 0 3 (by decide)).trans e70, fun i hi => absurd hi (Nat.not_lt_zero i)⟩, fun k hk => ⟨?_, Nat.zero_le _, fun i hi => absurd hi (Nat.not_lt_zero _)⟩⟩, ⟨⟨⟨?_, fun j hj => ?_⟩, nwa_0 hn2 hpo.2.2.2.1 yl (fun p hp => ?_)⟩, ⟨?_, fun k hk => absurd hk (Nat.not_lt_zero k)⟩, fun k hk => ?_⟩, yl_ok hp yl, ⟨Nat.zero_le _, trivial⟩, fun k hk l h => by cases h⟩
            · rw [fm8.2.2 12 0 (by decide), e712, e612]
              exact e512 k hk
            · rw [← hS8]
              show gI S7 8 0 10 = nI (Y2 6 0)
              rw [g10, hn2]
            · rw [← hS8]
              exact gb j (by rw [← hn2]; exact hj)
            · rw [← hS8]
              exact g40 p hp
            · rw [← hS8]
              rfl
            · show gA S8 43 0 k = nI 0
              rw [← hS8, gA_same]
              unfold fil
              rw [if_pos ⟨Nat.zero_le k, hk⟩]
          · rw [gA_same]
            unfold nwv
            by_cases p0 : p = 0
            · subst p0; rw [if_pos rfl, pk_un (by decide), pk_un (by decide), pk_us]
            · by_cases p1 : p = 1
              · subst p1; rw [if_neg (by decide), if_pos rfl, pk_un (by decide), pk_us]
              · by_cases p2 : p = 2
                · subst p2; rw [if_neg (by decide), if_neg (by decide), if_pos rfl, pk_us]
                · rw [if_neg p0, if_neg p1, if_neg p2, if_neg (by omega), pk_un p2, pk_un p1, pk_un p0]
                  unfold fil
                  rw [if_pos ⟨Nat.zero_le p, hp⟩]
        · rw [hp] at hp2; cases hp2
      · have f2 := fs_fry f2
        have he := prs_le hp
        try simp (disch := omega) only [no0, no1, nz1, nz2, nz3, nz4, nz5, nz7, nz8, Classical.not_not, bz0, bz1, wi_nil, ld_0, ld_s, isIv_I, isLv_L, isRv_R, true_and, and_true, lset_0, lset_1, lset_s, avw_I, avw_L, avw_R, clr_cons, clr_nil, kst_0, kst_1, kstL_0, kstL_1, addk_I, pA_0, pA_s, pD_0, pD_s, wid_nil, wid_cons, rcv_c, putv_I, putv_L, List.length_cons, List.length_nil, List.set_cons_zero, List.set_cons_succ, not_false_eq_true, Nat.reduceMod, Nat.reduceDiv, Nat.reduceEqDiff, Nat.reduceLT, Nat.reduceLeDiff, Nat.reduceAdd, Nat.reduceSub, reduceIte, Nat.lt_irrefl, Nat.zero_ne_one, Nat.one_ne_zero, Nat.zero_add, List.nil_append, List.cons_append, Option.toList_some, Option.toList_none, forall_const, false_implies, true_implies, false_or, or_false, true_or, or_true, i_le, i_lt, i_eq, i_eq0, i_lt0, i_0le, i_0lt, i_le0, i_in1, i_cl, nI_add, pk_mul, pk_sub, i_div, i_rem, i_sh1, i_bit, i_or, i_and, i_andn, nt_le, nf_le, nt_lt, nf_lt, nt_eq, nf_eq, not_true_eq_false, and_self, and_false, false_and, eq_self, Bool.toNat_true, Bool.toNat_false, i_bool, i_bool1, Bool.false_eq_true, Bool.true_eq_false, reduceCtorEq, i_neg1, i_neg2, i_neg3, i_neg4, i_neg5, i_neg6, i_neg7, i_neg8, i_neg9, i_nega, i_negb, i_negc, i_max2, i_min2, wi_nil]
        repeat (
          first
          | refine s_X8_year_0 ?_
          | refine s_X8_year_4 ?_
          | refine s_X8_year_9 ?_
          | refine s_X8_year_17 ?_
          | refine s_X8_year_25 ?_
          | refine s_X8_year_26 ?_
          | refine s_X8_year_38 ?_
          | refine s_X8_year_46 ?_
          | refine s_X8_year_57 ?_
          | refine s_X8_year_68 ?_
          | refine s_X8_year_75 ?_
          simp (disch := omega) only [B_X8_year_0, wi_iload_n, wi_invokestatic, B_X8_year_4, wi_if_ne, wi_iconst, wi_ireturn, B_X8_year_9, wi_aload_n, wi_getfield, fldv_7_1, fds_7_1, cnt_7, wi_invokevirtual, cnt_5, B_X8_year_17, B_X8_year_25, B_X8_year_26, fldv_7_5, fds_7_5, fldv_7_4, fds_7_4, cnt_2, B_X8_year_38, wi_bipush, wi_icmp_eq, B_X8_year_46, fldv_7_2, fds_7_2, cnt_6, B_X8_year_57, fldv_7_3, fds_7_3, B_X8_year_68, fldv_7_6, fds_7_6, cnt_0, B_X8_year_75, fldv_6_7, fds_6_7, no0, no1, nz1, nz2, nz3, nz4, nz5, nz7, nz8, Classical.not_not, bz0, bz1, wi_nil, ld_0, ld_s, isIv_I, isLv_L, isRv_R, true_and, and_true, lset_0, lset_1, lset_s, avw_I, avw_L, avw_R, clr_cons, clr_nil, kst_0, kst_1, kstL_0, kstL_1, addk_I, pA_0, pA_s, pD_0, pD_s, wid_nil, wid_cons, rcv_c, putv_I, putv_L, List.length_cons, List.length_nil, List.set_cons_zero, List.set_cons_succ, not_false_eq_true, Nat.reduceMod, Nat.reduceDiv, Nat.reduceEqDiff, Nat.reduceLT, Nat.reduceLeDiff, Nat.reduceAdd, Nat.reduceSub, reduceIte, Nat.lt_irrefl, Nat.zero_ne_one, Nat.one_ne_zero, Nat.zero_add, List.nil_append, List.cons_append, Option.toList_some, Option.toList_none, forall_const, false_implies, true_implies, false_or, or_false, true_or, or_true, i_le, i_lt, i_eq, i_eq0, i_lt0, i_0le, i_0lt, i_le0, i_in1, i_cl, nI_add, pk_mul, pk_sub, i_div, i_rem, i_sh1, i_bit, i_or, i_and, i_andn, nt_le, nf_le, nt_lt, nf_lt, nt_eq, nf_eq, not_true_eq_false, and_self, and_false, false_and, eq_self, Bool.toNat_true, Bool.toNat_false, i_bool, i_bool1, Bool.false_eq_true, Bool.true_eq_false, reduceCtorEq, i_neg1, i_neg2, i_neg3, i_neg4, i_neg5, i_neg6, i_neg7, i_neg8, i_neg9, i_nega, i_negb, i_negc, i_max2, i_min2])
        refine px ?_
        have hT2 : Tb S2 34 35 4 60 ts tc := tb_fr h1.2.1 f2 rfl rfl
        have hs2 : gA S2 34 0 t = nI n := by rw [f2.2.2 34 0 rfl]; exact hs
        refine x_entry (ls2 := [aR 8 0, aI (nI t), aU]) (Nat.le_of_ble_eq_true rfl) pl_9 rfl (Nat.le_of_ble_eq_true rfl) ?_
        try simp (disch := omega) only [no0, no1, nz1, nz2, nz3, nz4, nz5, nz7, nz8, Classical.not_not, bz0, bz1, wi_nil, ld_0, ld_s, isIv_I, isLv_L, isRv_R, true_and, and_true, lset_0, lset_1, lset_s, avw_I, avw_L, avw_R, clr_cons, clr_nil, kst_0, kst_1, kstL_0, kstL_1, addk_I, pA_0, pA_s, pD_0, pD_s, wid_nil, wid_cons, rcv_c, putv_I, putv_L, List.length_cons, List.length_nil, List.set_cons_zero, List.set_cons_succ, not_false_eq_true, Nat.reduceMod, Nat.reduceDiv, Nat.reduceEqDiff, Nat.reduceLT, Nat.reduceLeDiff, Nat.reduceAdd, Nat.reduceSub, reduceIte, Nat.lt_irrefl, Nat.zero_ne_one, Nat.one_ne_zero, Nat.zero_add, List.nil_append, List.cons_append, Option.toList_some, Option.toList_none, forall_const, false_implies, true_implies, false_or, or_false, true_or, or_true, i_le, i_lt, i_eq, i_eq0, i_lt0, i_0le, i_0lt, i_le0, i_in1, i_cl, nI_add, pk_mul, pk_sub, i_div, i_rem, i_sh1, i_bit, i_or, i_and, i_andn, nt_le, nf_le, nt_lt, nf_lt, nt_eq, nf_eq, not_true_eq_false, and_self, and_false, false_and, eq_self, Bool.toNat_true, Bool.toNat_false, i_bool, i_bool1, Bool.false_eq_true, Bool.true_eq_false, reduceCtorEq, i_neg1, i_neg2, i_neg3, i_neg4, i_neg5, i_neg6, i_neg7, i_neg8, i_neg9, i_nega, i_negb, i_negc, i_max2, i_min2, wi_nil]
        repeat (
          first
          | refine s_X9_year_0 ?_
          | refine s_X9_year_4 ?_
          | refine s_X9_year_9 ?_
          | refine s_X9_year_23 ?_
          | refine s_X9_year_24 ?_
          | refine s_X9_year_29 ?_
          | refine s_X9_year_37 ?_
          | refine s_X9_year_66 ?_
          | refine s_X9_year_173 ?_
          | refine s_X9_year_198 ?_
          simp (disch := omega) only [B_X9_year_0, wi_iload_n, wi_invokestatic, B_X9_year_4, wi_if_ne, wi_iconst, wi_ireturn, B_X9_year_9, wi_aload_n, wi_getfield, fldv_8_8, fds_8_8, cnt_8, wi_iaload, wi_if_ge, wi_invokevirtual, cnt_34, aTy_34, aLn_34, arr_34, cnt_36, aTy_36, aLn_36, arr_36, cnt_37, aTy_37, aLn_37, arr_37, cnt_38, aTy_38, aLn_38, arr_38, cnt_39, aTy_39, aLn_39, arr_39, cnt_40, aTy_40, aLn_40, arr_40, cnt_43, aTy_43, aLn_43, arr_43, bsv_43, B_X9_year_23, B_X9_year_24, B_X9_year_29, wi_bipush, wi_icmp_eq, B_X9_year_37, fldv_8_15, fds_8_15, wi_putfield, pOk_8_10, wi_istore_n, B_X9_year_47, wi_icmp_ge, fldv_8_20, fds_8_20, wi_iastore, wi_iinc, wi_goto, B_X9_year_66, fldv_8_16, fds_8_16, fldv_8_17, fds_8_17, B_X9_year_95, fldv_8_10, fds_8_10, fldv_8_11, fds_8_11, fldv_8_19, fds_8_19, wi_imul, fldv_8_12, fds_8_12, wi_iadd, fldv_8_13, fds_8_13, B_X9_year_173, pOk_8_22, B_X9_year_180, fldv_8_24, fds_8_24, wi_bastore, B_X9_year_198, no0, no1, nz1, nz2, nz3, nz4, nz5, nz7, nz8, Classical.not_not, bz0, bz1, wi_nil, ld_0, ld_s, isIv_I, isLv_L, isRv_R, true_and, and_true, lset_0, lset_1, lset_s, avw_I, avw_L, avw_R, clr_cons, clr_nil, kst_0, kst_1, kstL_0, kstL_1, addk_I, pA_0, pA_s, pD_0, pD_s, wid_nil, wid_cons, rcv_c, putv_I, putv_L, List.length_cons, List.length_nil, List.set_cons_zero, List.set_cons_succ, not_false_eq_true, Nat.reduceMod, Nat.reduceDiv, Nat.reduceEqDiff, Nat.reduceLT, Nat.reduceLeDiff, Nat.reduceAdd, Nat.reduceSub, reduceIte, Nat.lt_irrefl, Nat.zero_ne_one, Nat.one_ne_zero, Nat.zero_add, List.nil_append, List.cons_append, Option.toList_some, Option.toList_none, forall_const, false_implies, true_implies, false_or, or_false, true_or, or_true, i_le, i_lt, i_eq, i_eq0, i_lt0, i_0le, i_0lt, i_le0, i_in1, i_cl, nI_add, pk_mul, pk_sub, i_div, i_rem, i_sh1, i_bit, i_or, i_and, i_andn, nt_le, nf_le, nt_lt, nf_lt, nt_eq, nf_eq, not_true_eq_false, and_self, and_false, false_and, eq_self, Bool.toNat_true, Bool.toNat_false, i_bool, i_bool1, Bool.false_eq_true, Bool.true_eq_false, reduceCtorEq, i_neg1, i_neg2, i_neg3, i_neg4, i_neg5, i_neg6, i_neg7, i_neg8, i_neg9, i_nega, i_negb, i_negc, i_max2, i_min2])
        refine c_mText ?_
        try simp (disch := omega) only [no0, no1, nz1, nz2, nz3, nz4, nz5, nz7, nz8, Classical.not_not, bz0, bz1, wi_nil, ld_0, ld_s, isIv_I, isLv_L, isRv_R, true_and, and_true, lset_0, lset_1, lset_s, avw_I, avw_L, avw_R, clr_cons, clr_nil, kst_0, kst_1, kstL_0, kstL_1, addk_I, pA_0, pA_s, pD_0, pD_s, wid_nil, wid_cons, rcv_c, putv_I, putv_L, List.length_cons, List.length_nil, List.set_cons_zero, List.set_cons_succ, not_false_eq_true, Nat.reduceMod, Nat.reduceDiv, Nat.reduceEqDiff, Nat.reduceLT, Nat.reduceLeDiff, Nat.reduceAdd, Nat.reduceSub, reduceIte, Nat.lt_irrefl, Nat.zero_ne_one, Nat.one_ne_zero, Nat.zero_add, List.nil_append, List.cons_append, Option.toList_some, Option.toList_none, forall_const, false_implies, true_implies, false_or, or_false, true_or, or_true, i_le, i_lt, i_eq, i_eq0, i_lt0, i_0le, i_0lt, i_le0, i_in1, i_cl, nI_add, pk_mul, pk_sub, i_div, i_rem, i_sh1, i_bit, i_or, i_and, i_andn, nt_le, nf_le, nt_lt, nf_lt, nt_eq, nf_eq, not_true_eq_false, and_self, and_false, false_and, eq_self, Bool.toNat_true, Bool.toNat_false, i_bool, i_bool1, Bool.false_eq_true, Bool.true_eq_false, reduceCtorEq, i_neg1, i_neg2, i_neg3, i_neg4, i_neg5, i_neg6, i_neg7, i_neg8, i_neg9, i_nega, i_negb, i_negc, i_max2, i_min2, hr, hs2, wi_nil]
        repeat (
          first
          | refine s_X9_year_0 ?_
          | refine s_X9_year_4 ?_
          | refine s_X9_year_9 ?_
          | refine s_X9_year_23 ?_
          | refine s_X9_year_24 ?_
          | refine s_X9_year_29 ?_
          | refine s_X9_year_37 ?_
          | refine s_X9_year_66 ?_
          | refine s_X9_year_173 ?_
          | refine s_X9_year_198 ?_
          simp (disch := omega) only [B_X9_year_0, wi_iload_n, wi_invokestatic, B_X9_year_4, wi_if_ne, wi_iconst, wi_ireturn, B_X9_year_9, wi_aload_n, wi_getfield, fldv_8_8, fds_8_8, cnt_8, wi_iaload, wi_if_ge, wi_invokevirtual, cnt_34, aTy_34, aLn_34, arr_34, cnt_36, aTy_36, aLn_36, arr_36, cnt_37, aTy_37, aLn_37, arr_37, cnt_38, aTy_38, aLn_38, arr_38, cnt_39, aTy_39, aLn_39, arr_39, cnt_40, aTy_40, aLn_40, arr_40, cnt_43, aTy_43, aLn_43, arr_43, bsv_43, B_X9_year_23, B_X9_year_24, B_X9_year_29, wi_bipush, wi_icmp_eq, B_X9_year_37, fldv_8_15, fds_8_15, wi_putfield, pOk_8_10, wi_istore_n, B_X9_year_47, wi_icmp_ge, fldv_8_20, fds_8_20, wi_iastore, wi_iinc, wi_goto, B_X9_year_66, fldv_8_16, fds_8_16, fldv_8_17, fds_8_17, B_X9_year_95, fldv_8_10, fds_8_10, fldv_8_11, fds_8_11, fldv_8_19, fds_8_19, wi_imul, fldv_8_12, fds_8_12, wi_iadd, fldv_8_13, fds_8_13, B_X9_year_173, pOk_8_22, B_X9_year_180, fldv_8_24, fds_8_24, wi_bastore, B_X9_year_198, no0, no1, nz1, nz2, nz3, nz4, nz5, nz7, nz8, Classical.not_not, bz0, bz1, wi_nil, ld_0, ld_s, isIv_I, isLv_L, isRv_R, true_and, and_true, lset_0, lset_1, lset_s, avw_I, avw_L, avw_R, clr_cons, clr_nil, kst_0, kst_1, kstL_0, kstL_1, addk_I, pA_0, pA_s, pD_0, pD_s, wid_nil, wid_cons, rcv_c, putv_I, putv_L, List.length_cons, List.length_nil, List.set_cons_zero, List.set_cons_succ, not_false_eq_true, Nat.reduceMod, Nat.reduceDiv, Nat.reduceEqDiff, Nat.reduceLT, Nat.reduceLeDiff, Nat.reduceAdd, Nat.reduceSub, reduceIte, Nat.lt_irrefl, Nat.zero_ne_one, Nat.one_ne_zero, Nat.zero_add, List.nil_append, List.cons_append, Option.toList_some, Option.toList_none, forall_const, false_implies, true_implies, false_or, or_false, true_or, or_true, i_le, i_lt, i_eq, i_eq0, i_lt0, i_0le, i_0lt, i_le0, i_in1, i_cl, nI_add, pk_mul, pk_sub, i_div, i_rem, i_sh1, i_bit, i_or, i_and, i_andn, nt_le, nf_le, nt_lt, nf_lt, nt_eq, nf_eq, not_true_eq_false, and_self, and_false, false_and, eq_self, Bool.toNat_true, Bool.toNat_false, i_bool, i_bool1, Bool.false_eq_true, Bool.true_eq_false, reduceCtorEq, i_neg1, i_neg2, i_neg3, i_neg4, i_neg5, i_neg6, i_neg7, i_neg8, i_neg9, i_nega, i_negb, i_negc, i_max2, i_min2, hr, hs2])
        refine c_faultOf ht4 hz (by omega) (h1.2.2 t) hT2 (fun S3 w2 o2 l2 hp2 _ _ _ f3 => ?_) (fun S3 e2 hp2 f3 => ?_)
        · rw [hp] at hp2; cases hp2
        · rw [hp] at hp2
          cases hp2
          try simp (disch := omega) only [no0, no1, nz1, nz2, nz3, nz4, nz5, nz7, nz8, Classical.not_not, bz0, bz1, wi_nil, ld_0, ld_s, isIv_I, isLv_L, isRv_R, true_and, and_true, lset_0, lset_1, lset_s, avw_I, avw_L, avw_R, clr_cons, clr_nil, kst_0, kst_1, kstL_0, kstL_1, addk_I, pA_0, pA_s, pD_0, pD_s, wid_nil, wid_cons, rcv_c, putv_I, putv_L, List.length_cons, List.length_nil, List.set_cons_zero, List.set_cons_succ, not_false_eq_true, Nat.reduceMod, Nat.reduceDiv, Nat.reduceEqDiff, Nat.reduceLT, Nat.reduceLeDiff, Nat.reduceAdd, Nat.reduceSub, reduceIte, Nat.lt_irrefl, Nat.zero_ne_one, Nat.one_ne_zero, Nat.zero_add, List.nil_append, List.cons_append, Option.toList_some, Option.toList_none, forall_const, false_implies, true_implies, false_or, or_false, true_or, or_true, i_le, i_lt, i_eq, i_eq0, i_lt0, i_0le, i_0lt, i_le0, i_in1, i_cl, nI_add, pk_mul, pk_sub, i_div, i_rem, i_sh1, i_bit, i_or, i_and, i_andn, nt_le, nf_le, nt_lt, nf_lt, nt_eq, nf_eq, not_true_eq_false, and_self, and_false, false_and, eq_self, Bool.toNat_true, Bool.toNat_false, i_bool, i_bool1, Bool.false_eq_true, Bool.true_eq_false, reduceCtorEq, i_neg1, i_neg2, i_neg3, i_neg4, i_neg5, i_neg6, i_neg7, i_neg8, i_neg9, i_nega, i_negb, i_negc, i_max2, i_min2, wi_nil]
          repeat (
            first
            | refine s_X9_year_0 ?_
            | refine s_X9_year_4 ?_
            | refine s_X9_year_9 ?_
            | refine s_X9_year_23 ?_
            | refine s_X9_year_24 ?_
            | refine s_X9_year_29 ?_
            | refine s_X9_year_37 ?_
            | refine s_X9_year_66 ?_
            | refine s_X9_year_173 ?_
            | refine s_X9_year_198 ?_
            simp (disch := omega) only [B_X9_year_0, wi_iload_n, wi_invokestatic, B_X9_year_4, wi_if_ne, wi_iconst, wi_ireturn, B_X9_year_9, wi_aload_n, wi_getfield, fldv_8_8, fds_8_8, cnt_8, wi_iaload, wi_if_ge, wi_invokevirtual, cnt_34, aTy_34, aLn_34, arr_34, cnt_36, aTy_36, aLn_36, arr_36, cnt_37, aTy_37, aLn_37, arr_37, cnt_38, aTy_38, aLn_38, arr_38, cnt_39, aTy_39, aLn_39, arr_39, cnt_40, aTy_40, aLn_40, arr_40, cnt_43, aTy_43, aLn_43, arr_43, bsv_43, B_X9_year_23, B_X9_year_24, B_X9_year_29, wi_bipush, wi_icmp_eq, B_X9_year_37, fldv_8_15, fds_8_15, wi_putfield, pOk_8_10, wi_istore_n, B_X9_year_47, wi_icmp_ge, fldv_8_20, fds_8_20, wi_iastore, wi_iinc, wi_goto, B_X9_year_66, fldv_8_16, fds_8_16, fldv_8_17, fds_8_17, B_X9_year_95, fldv_8_10, fds_8_10, fldv_8_11, fds_8_11, fldv_8_19, fds_8_19, wi_imul, fldv_8_12, fds_8_12, wi_iadd, fldv_8_13, fds_8_13, B_X9_year_173, pOk_8_22, B_X9_year_180, fldv_8_24, fds_8_24, wi_bastore, B_X9_year_198, no0, no1, nz1, nz2, nz3, nz4, nz5, nz7, nz8, Classical.not_not, bz0, bz1, wi_nil, ld_0, ld_s, isIv_I, isLv_L, isRv_R, true_and, and_true, lset_0, lset_1, lset_s, avw_I, avw_L, avw_R, clr_cons, clr_nil, kst_0, kst_1, kstL_0, kstL_1, addk_I, pA_0, pA_s, pD_0, pD_s, wid_nil, wid_cons, rcv_c, putv_I, putv_L, List.length_cons, List.length_nil, List.set_cons_zero, List.set_cons_succ, not_false_eq_true, Nat.reduceMod, Nat.reduceDiv, Nat.reduceEqDiff, Nat.reduceLT, Nat.reduceLeDiff, Nat.reduceAdd, Nat.reduceSub, reduceIte, Nat.lt_irrefl, Nat.zero_ne_one, Nat.one_ne_zero, Nat.zero_add, List.nil_append, List.cons_append, Option.toList_some, Option.toList_none, forall_const, false_implies, true_implies, false_or, or_false, true_or, or_true, i_le, i_lt, i_eq, i_eq0, i_lt0, i_0le, i_0lt, i_le0, i_in1, i_cl, nI_add, pk_mul, pk_sub, i_div, i_rem, i_sh1, i_bit, i_or, i_and, i_andn, nt_le, nf_le, nt_lt, nf_lt, nt_eq, nf_eq, not_true_eq_false, and_self, and_false, false_and, eq_self, Bool.toNat_true, Bool.toNat_false, i_bool, i_bool1, Bool.false_eq_true, Bool.true_eq_false, reduceCtorEq, i_neg1, i_neg2, i_neg3, i_neg4, i_neg5, i_neg6, i_neg7, i_neg8, i_neg9, i_nega, i_negb, i_negc, i_max2, i_min2])
          exact pm (rr_fs h (f2.trans f3))
end
