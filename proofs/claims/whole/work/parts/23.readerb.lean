-- PART 23: a year's head, its deeds, the whole text
theorem yset_yset {Y : Nat → Nat → Nat} {f i v w : Nat} : yset (yset Y f i v) f i w = yset Y f i w := by
  funext a b
  unfold yset
  split <;> rfl
def xhd (b : Nat → Int32) (n q : Nat) : Nat × Nat × Option Nat × Nat :=
  let a := rfg b n none (q + 1)
  let c := rfg b n a.2.1 a.2.2
  let w3 := if c.2.1 = none ∧ 40 < 10 * a.1 + c.1 then some (q + 1) else c.2.1
  let e := rfg b n w3 c.2.2
  (10 * a.1 + c.1, e.1, e.2.1, e.2.2)
theorem xhd_eq {b : Nat → Int32} {n q : Nat} (hq : q < n) (hw : b q = nI 119) : match hdD b n q with
    | .inl e => (xhd b n q).2.2.1 = some e
    | .inr h => xhd b n q = (h.1, h.2, none, q + 4) := by
  unfold hdD xhd
  rw [if_neg (by rintro (h | h); omega; exact h hw)]
  cases h1 : dgt b n (q + 1) with
  | none => simp [rfg, h1]
  | some x =>
    cases h2 : dgt b n (q + 2) with
    | none => simp [rfg, h1, h2]
    | some y =>
      by_cases h3 : 40 < 10 * x + y
      · simp [rfg, h1, h2, h3]
      · cases h4 : dgt b n (q + 3) with
        | none => simp [rfg, h1, h2, h3, h4]
        | some z => simp [rfg, h1, h2, h3, h4]
section
variable {d t n : Nat} {S : MS} {P : Option AV → MS → Prop} {rs : Nat → Nat} {rc : Nat → Nat → Int32} {Y : Nat → Nat → Nat}
theorem c_readHead (ht4 : t < 4) (hn : rs t = n + 1) (hn60 : n ≤ 60) (ht : Tb S 17 18 4 60 rs rc) (hb : byO (rc t)) (hr : RdX S t n 0 none) (hy : YrX S 2 Y)
    (q1 : ∀ S2 w o, hdD (rc t) n (skp (rc t) n 0) = .inr (w, o) → RdX S2 t n (skp (rc t) n 0 + 4) none → YrX S2 2 (yset (yset Y 6 2 w) 6 3 o) → FRY S S2 → P none S2)
    (q0 : ∀ S2 e p2 Y2, hdD (rc t) n (skp (rc t) n 0) = .inl e → e ≤ 60 → RdX S2 t n p2 (some e) → p2 ≤ n → YrX S2 2 Y2 → Y2 6 0 = Y 6 0 → FRY S S2 → P none S2) : wpM (d + 3) mX3_readHead [aR 2 0, aR 6 2] S P := by
  obtain ⟨k1, k2, k3⟩ := skp_spec (b := rc t) (n := n) (p := 0) (Nat.zero_le n)
  generalize hsk : skp (rc t) n 0 = q at k1 k2 k3 q1 q0
  have hz := ht t ht4
  refine x_entry (ls2 := [aR 2 0, aR 6 2, aU]) (Nat.le_of_ble_eq_true rfl) pl_3 rfl (Nat.le_of_ble_eq_true rfl) ?_
  refine s_X3_readHead_0 ?_
  simp only [B_X3_readHead_0, wi_aload_n, wi_invokevirtual, cnt_2, no0, no1, nz1, nz2, nz3, nz4, nz5, nz7, nz8, Classical.not_not, bz0, bz1, wi_nil, ld_0, ld_s, isIv_I, isLv_L, isRv_R, true_and, and_true, lset_0, lset_1, lset_s, avw_I, avw_L, avw_R, clr_cons, clr_nil, kst_0, kst_1, kstL_0, kstL_1, addk_I, pA_0, pA_s, pD_0, pD_s, wid_nil, wid_cons, rcv_c, putv_I, putv_L, List.length_cons, List.length_nil, List.set_cons_zero, List.set_cons_succ, not_false_eq_true, Nat.reduceMod, Nat.reduceDiv, Nat.reduceEqDiff, Nat.reduceLT, Nat.reduceLeDiff, Nat.reduceAdd, Nat.reduceSub, reduceIte, Nat.lt_irrefl, Nat.zero_ne_one, Nat.one_ne_zero, Nat.zero_add, List.nil_append, List.cons_append, Option.toList_some, Option.toList_none, forall_const, false_implies, true_implies, false_or, or_false, true_or, or_true]
  refine c_blanks ht4 hn (Nat.zero_le n) ht hr hy (fun S1 r1 y1 f1 => ?_)
  rw [hsk] at r1
  have t1 := tb_fry ht f1 (by decide) (by decide)
  have bad : (n ≤ q ∨ ¬ rc t q = nI 119) → wpX (d + 2) mX3_readHead 35 [aR 2 0, aU, aU] [] S1 P := by
    intro h
    refine s_X3_readHead_35 ?_
    simp only [B_X3_readHead_35, wi_aload_n, wi_getfield, fldv_2_3, fds_2_3, cnt_2, wi_putfield, pOk_2_4, wi_return_, no0, no1, nz1, nz2, nz3, nz4, nz5, nz7, nz8, Classical.not_not, bz0, bz1, wi_nil, ld_0, ld_s, isIv_I, isLv_L, isRv_R, true_and, and_true, lset_0, lset_1, lset_s, avw_I, avw_L, avw_R, clr_cons, clr_nil, kst_0, kst_1, kstL_0, kstL_1, addk_I, pA_0, pA_s, pD_0, pD_s, wid_nil, wid_cons, rcv_c, putv_I, putv_L, List.length_cons, List.length_nil, List.set_cons_zero, List.set_cons_succ, not_false_eq_true, Nat.reduceMod, Nat.reduceDiv, Nat.reduceEqDiff, Nat.reduceLT, Nat.reduceLeDiff, Nat.reduceAdd, Nat.reduceSub, reduceIte, Nat.lt_irrefl, Nat.zero_ne_one, Nat.one_ne_zero, Nat.zero_add, List.nil_append, List.cons_append, Option.toList_some, Option.toList_none, forall_const, false_implies, true_implies, false_or, or_false, true_or, or_true]
    refine q0 _ q q Y ?_ (by omega) (rdx_4 r1 r1.2.2.1) k2 (yrx_s2 y1) rfl (f1.trans FRY_s)
    unfold hdD
    rw [if_pos h]
  refine s_X3_readHead_4 ?_
  simp only [B_X3_readHead_4, wi_aload_n, wi_getfield, fldv_2_3, fds_2_3, cnt_2, fldv_2_2, fds_2_2, wi_icmp_ge, fldv_2_0, fds_2_0, fldv_2_1, fds_2_1, wi_invokevirtual, cnt_5, no0, no1, nz1, nz2, nz3, nz4, nz5, nz7, nz8, Classical.not_not, bz0, bz1, wi_nil, ld_0, ld_s, isIv_I, isLv_L, isRv_R, true_and, and_true, lset_0, lset_1, lset_s, avw_I, avw_L, avw_R, clr_cons, clr_nil, kst_0, kst_1, kstL_0, kstL_1, addk_I, pA_0, pA_s, pD_0, pD_s, wid_nil, wid_cons, rcv_c, putv_I, putv_L, List.length_cons, List.length_nil, List.set_cons_zero, List.set_cons_succ, not_false_eq_true, Nat.reduceMod, Nat.reduceDiv, Nat.reduceEqDiff, Nat.reduceLT, Nat.reduceLeDiff, Nat.reduceAdd, Nat.reduceSub, reduceIte, Nat.lt_irrefl, Nat.zero_ne_one, Nat.one_ne_zero, Nat.zero_add, List.nil_append, List.cons_append, Option.toList_some, Option.toList_none, forall_const, false_implies, true_implies, false_or, or_false, true_or, or_true]
  rw [r1.1, r1.2.1, r1.2.2.1, i_le (by omega) (by omega)]
  refine ⟨fun h => bad (Or.inl h), fun h => ?_⟩
  refine c_Tread t1 ht4 (by omega) ?_
  refine s_X3_readHead_30 ?_
  simp only [B_X3_readHead_30, wi_bipush, wi_icmp_eq, no0, no1, nz1, nz2, nz3, nz4, nz5, nz7, nz8, Classical.not_not, bz0, bz1, wi_nil, ld_0, ld_s, isIv_I, isLv_L, isRv_R, true_and, and_true, lset_0, lset_1, lset_s, avw_I, avw_L, avw_R, clr_cons, clr_nil, kst_0, kst_1, kstL_0, kstL_1, addk_I, pA_0, pA_s, pD_0, pD_s, wid_nil, wid_cons, rcv_c, putv_I, putv_L, List.length_cons, List.length_nil, List.set_cons_zero, List.set_cons_succ, not_false_eq_true, Nat.reduceMod, Nat.reduceDiv, Nat.reduceEqDiff, Nat.reduceLT, Nat.reduceLeDiff, Nat.reduceAdd, Nat.reduceSub, reduceIte, Nat.lt_irrefl, Nat.zero_ne_one, Nat.one_ne_zero, Nat.zero_add, List.nil_append, List.cons_append, Option.toList_some, Option.toList_none, forall_const, false_implies, true_implies, false_or, or_false, true_or, or_true]
  refine ⟨fun h119 => ?_, fun h119 => bad (Or.inr h119)⟩
  have hx := xhd_eq (b := rc t) (n := n) (q := q) (by omega) h119
  refine s_X3_readHead_44 ?_
  simp only [B_X3_readHead_44, wi_aload_n, wi_dup, wi_getfield, fldv_2_3, fds_2_3, cnt_2, wi_iconst, wi_iadd, wi_putfield, pOk_2_3, wi_istore_n, wi_bipush, wi_invokevirtual, no0, no1, nz1, nz2, nz3, nz4, nz5, nz7, nz8, Classical.not_not, bz0, bz1, wi_nil, ld_0, ld_s, isIv_I, isLv_L, isRv_R, true_and, and_true, lset_0, lset_1, lset_s, avw_I, avw_L, avw_R, clr_cons, clr_nil, kst_0, kst_1, kstL_0, kstL_1, addk_I, pA_0, pA_s, pD_0, pD_s, wid_nil, wid_cons, rcv_c, putv_I, putv_L, List.length_cons, List.length_nil, List.set_cons_zero, List.set_cons_succ, not_false_eq_true, Nat.reduceMod, Nat.reduceDiv, Nat.reduceEqDiff, Nat.reduceLT, Nat.reduceLeDiff, Nat.reduceAdd, Nat.reduceSub, reduceIte, Nat.lt_irrefl, Nat.zero_ne_one, Nat.one_ne_zero, Nat.zero_add, List.nil_append, List.cons_append, Option.toList_some, Option.toList_none, forall_const, false_implies, true_implies, false_or, or_false, true_or, or_true, gI_sI, gI_sL, gI_sA, gL_sI, gL_sL, gL_sA, gA_sI, gA_sL, gA_sA, false_and, and_false, and_self, eq_self, if_true, if_false, sA_sA]
  rw [r1.2.2.1, nI_add]
  have A := rfg_w (b := rc t) (n := n) (p := q + 1) (w := none) (by omega) hn60 (fun _ h => by cases h)
  refine c_figure ht4 hn (by omega) (fun _ h => by cases h) (tb_fry t1 FRY_s (by decide) (by decide)) hb (rdx_3 r1) (yrx_s2 y1) (fun S2 r2 y2 f2 => ?_)
  unfold xhd at hx
  dsimp only at hx
  generalize hA : rfg (rc t) n none (q + 1) = a at A r2 hx ⊢
  refine s_X3_readHead_66 ?_
  simp only [B_X3_readHead_66, wi_imul, wi_putfield, pOk_6_9, cnt_6, wi_aload_n, wi_dup, wi_getfield, fldv_6_9, fds_6_9, wi_invokevirtual, cnt_2, no0, no1, nz1, nz2, nz3, nz4, nz5, nz7, nz8, Classical.not_not, bz0, bz1, wi_nil, ld_0, ld_s, isIv_I, isLv_L, isRv_R, true_and, and_true, lset_0, lset_1, lset_s, avw_I, avw_L, avw_R, clr_cons, clr_nil, kst_0, kst_1, kstL_0, kstL_1, addk_I, pA_0, pA_s, pD_0, pD_s, wid_nil, wid_cons, rcv_c, putv_I, putv_L, List.length_cons, List.length_nil, List.set_cons_zero, List.set_cons_succ, not_false_eq_true, Nat.reduceMod, Nat.reduceDiv, Nat.reduceEqDiff, Nat.reduceLT, Nat.reduceLeDiff, Nat.reduceAdd, Nat.reduceSub, reduceIte, Nat.lt_irrefl, Nat.zero_ne_one, Nat.one_ne_zero, Nat.zero_add, List.nil_append, List.cons_append, Option.toList_some, Option.toList_none, forall_const, false_implies, true_implies, false_or, or_false, true_or, or_true, gI_sI, gI_sL, gI_sA, gL_sI, gL_sL, gL_sA, gA_sI, gA_sL, gA_sA, false_and, and_false, and_self, eq_self, if_true, if_false, sA_sA]
  rw [pk_mul]
  have f3 : FRY S (sI S2 6 2 9 (nI (10 * a.1))) := ((f1.trans FRY_s).trans f2).trans (FRY_y FY_sI)
  have y3 : YrX (sI S2 6 2 9 (nI (10 * a.1))) 2 (yset Y 6 2 (10 * a.1)) := yrx_I (t := 2) y2
  have r3 : RdX (sI S2 6 2 9 (nI (10 * a.1))) t n a.2.2 a.2.1 := rdx_y r2 FY_sI
  have t3 := tb_fry ht f3 (by decide) (by decide)
  have C := rfg_w (b := rc t) (n := n) (p := a.2.2) (w := a.2.1) A.1 hn60 A.2.1
  refine c_figure ht4 hn A.1 (fun z h => by have := A.2.1 z h; omega) t3 hb r3 y3 (fun S4 r4 y4 f4 => ?_)
  generalize hC : rfg (rc t) n a.2.1 a.2.2 = c at C r4 hx ⊢
  refine s_X3_readHead_79 ?_
  simp only [B_X3_readHead_79, wi_iadd, wi_putfield, pOk_6_9, cnt_6, wi_aload_n, wi_getfield, fldv_2_4, fds_2_4, cnt_2, wi_bipush, wi_icmp_ne, fldv_6_9, fds_6_9, wi_icmp_le, wi_iload_n, pOk_2_4, no0, no1, nz1, nz2, nz3, nz4, nz5, nz7, nz8, Classical.not_not, bz0, bz1, wi_nil, ld_0, ld_s, isIv_I, isLv_L, isRv_R, true_and, and_true, lset_0, lset_1, lset_s, avw_I, avw_L, avw_R, clr_cons, clr_nil, kst_0, kst_1, kstL_0, kstL_1, addk_I, pA_0, pA_s, pD_0, pD_s, wid_nil, wid_cons, rcv_c, putv_I, putv_L, List.length_cons, List.length_nil, List.set_cons_zero, List.set_cons_succ, not_false_eq_true, Nat.reduceMod, Nat.reduceDiv, Nat.reduceEqDiff, Nat.reduceLT, Nat.reduceLeDiff, Nat.reduceAdd, Nat.reduceSub, reduceIte, Nat.lt_irrefl, Nat.zero_ne_one, Nat.one_ne_zero, Nat.zero_add, List.nil_append, List.cons_append, Option.toList_some, Option.toList_none, forall_const, false_implies, true_implies, false_or, or_false, true_or, or_true, gI_sI, gI_sL, gI_sA, gL_sI, gL_sL, gL_sA, gA_sI, gA_sL, gA_sA, false_and, and_false, and_self, eq_self, if_true, if_false, sA_sA]
  have f5 : FRY S (sI S4 6 2 9 (nI (10 * a.1 + c.1))) := (f3.trans f4).trans (FRY_y FY_sI)
  have y5 : YrX (sI S4 6 2 9 (nI (10 * a.1 + c.1))) 2 (yset Y 6 2 (10 * a.1 + c.1)) := by
    have := yrx_I (t := 2) (v := 10 * a.1 + c.1) y4
    rw [yset_yset] at this
    exact this
  have r5 : RdX (sI S4 6 2 9 (nI (10 * a.1 + c.1))) t n c.2.2 c.2.1 := rdx_y r4 FY_sI
  rw [r4.2.2.2, wr_eq (fun z h => by have := C.2.1 z h; omega), nI_add, i_le (by omega) (by decide)]
  have last : ∀ (S6 : MS) (w3 : Option Nat), w3 = (if c.2.1 = none ∧ 40 < 10 * a.1 + c.1 then some (q + 1) else c.2.1) → RdX S6 t n c.2.2 w3 → YrX S6 2 (yset Y 6 2 (10 * a.1 + c.1)) → FRY S S6 → wpX (d + 2) mX3_readHead 106 [aR 2 0, aR 6 2, aU] [] S6 P := by
    intro S6 w3 hw3 r6 y6 f6
    rw [← hw3] at hx
    have hw60 : ∀ z, w3 = some z → z ≤ 60 := by
      intro z hz2
      rw [hw3] at hz2
      split at hz2
      · cases hz2; omega
      · exact C.2.1 z hz2
    refine s_X3_readHead_106 ?_
    simp only [B_X3_readHead_106, wi_aload_n, wi_invokevirtual, cnt_2, no0, no1, nz1, nz2, nz3, nz4, nz5, nz7, nz8, Classical.not_not, bz0, bz1, wi_nil, ld_0, ld_s, isIv_I, isLv_L, isRv_R, true_and, and_true, lset_0, lset_1, lset_s, avw_I, avw_L, avw_R, clr_cons, clr_nil, kst_0, kst_1, kstL_0, kstL_1, addk_I, pA_0, pA_s, pD_0, pD_s, wid_nil, wid_cons, rcv_c, putv_I, putv_L, List.length_cons, List.length_nil, List.set_cons_zero, List.set_cons_succ, not_false_eq_true, Nat.reduceMod, Nat.reduceDiv, Nat.reduceEqDiff, Nat.reduceLT, Nat.reduceLeDiff, Nat.reduceAdd, Nat.reduceSub, reduceIte, Nat.lt_irrefl, Nat.zero_ne_one, Nat.one_ne_zero, Nat.zero_add, List.nil_append, List.cons_append, Option.toList_some, Option.toList_none, forall_const, false_implies, true_implies, false_or, or_false, true_or, or_true]
    have E := rfg_w (b := rc t) (n := n) (p := c.2.2) (w := w3) C.1 hn60 hw60
    refine c_figure ht4 hn C.1 (fun z h => by have := hw60 z h; omega) (tb_fry ht f6 (by decide) (by decide)) hb r6 y6 (fun S7 r7 y7 f7 => ?_)
    generalize hE : rfg (rc t) n w3 c.2.2 = e at E r7 hx ⊢
    refine s_X3_readHead_111 ?_
    simp only [B_X3_readHead_111, wi_putfield, pOk_6_10, cnt_6, wi_return_, no0, no1, nz1, nz2, nz3, nz4, nz5, nz7, nz8, Classical.not_not, bz0, bz1, wi_nil, ld_0, ld_s, isIv_I, isLv_L, isRv_R, true_and, and_true, lset_0, lset_1, lset_s, avw_I, avw_L, avw_R, clr_cons, clr_nil, kst_0, kst_1, kstL_0, kstL_1, addk_I, pA_0, pA_s, pD_0, pD_s, wid_nil, wid_cons, rcv_c, putv_I, putv_L, List.length_cons, List.length_nil, List.set_cons_zero, List.set_cons_succ, not_false_eq_true, Nat.reduceMod, Nat.reduceDiv, Nat.reduceEqDiff, Nat.reduceLT, Nat.reduceLeDiff, Nat.reduceAdd, Nat.reduceSub, reduceIte, Nat.lt_irrefl, Nat.zero_ne_one, Nat.one_ne_zero, Nat.zero_add, List.nil_append, List.cons_append, Option.toList_some, Option.toList_none, forall_const, false_implies, true_implies, false_or, or_false, true_or, or_true]
    have f8 : FRY S (sI S7 6 2 10 (nI e.1)) := (f6.trans f7).trans (FRY_y FY_sI)
    have y8 : YrX (sI S7 6 2 10 (nI e.1)) 2 (yset (yset Y 6 2 (10 * a.1 + c.1)) 6 3 e.1) := yrx_I (t := 3) y7
    have r8 : RdX (sI S7 6 2 10 (nI e.1)) t n e.2.2 e.2.1 := rdx_y r7 FY_sI
    cases hh : hdD (rc t) n q with
    | inl x =>
      rw [hh] at hx
      have hx : e.2.1 = some x := hx
      rw [hx] at r8
      refine q0 _ x e.2.2 _ hh (E.2.1 x hx) r8 E.1 y8 ?_ f8
      simp [yset]
    | inr x =>
      rw [hh] at hx
      obtain ⟨x1, x2⟩ := x
      have hx : (10 * a.1 + c.1, e.1, e.2.1, e.2.2) = (x1, x2, none, q + 4) := hx
      simp only [Prod.mk.injEq] at hx
      obtain ⟨g1, g2, g3, g4⟩ := hx
      rw [g1, g2] at y8
      rw [g3, g4] at r8
      exact q1 _ x1 x2 hh r8 (by rw [← g1, ← g2] at y8 ⊢; exact y8) f8
  refine ⟨fun h1 => last _ c.2.1 (by rw [if_neg (fun z => h1 z.1)]) r5 y5 f5, fun h1 => ⟨fun h2 => last _ c.2.1 (by rw [if_neg (fun z => by omega)]) r5 y5 f5, fun h2 => ?_⟩⟩
  refine last _ (some (q + 1)) (by rw [if_pos ⟨h1, by omega⟩]) (rdx_4 r5 rfl) (yrx_s2 y5) (f5.trans FRY_s)

/-- a deed at q, m being there already -/
def dst (b : Nat → Int32) (n q m : Nat) : Nat ⊕ (Nat × Nat × Nat × Nat) := match kl (b q) with
  | none => .inl q
  | some kd => if m = 5 then .inl q else match figs3 b n (q + 1) with
    | .inl e => .inl e
    | .inr x => .inr (kd, x.1, x.2.1, x.2.2)
theorem plD_eq {b : Nat → Int32} {n k p : Nat} {acc : List (Nat × Nat × Nat × Nat)} : plD b n (k + 1) p acc = if n ≤ skp b n p then (if acc.length = 0 then .inl n else .inr acc) else match dst b n (skp b n p) acc.length with
    | .inl e => .inl e
    | .inr x => plD b n k (skp b n p + 4) (acc ++ [x]) := by
  rw [plD]
  unfold dst
  split
  · rfl
  · cases kl (b (skp b n p)) with
    | none => rfl
    | some kd =>
      dsimp only
      split
      · rfl
      · cases figs3 b n (skp b n p + 1) with
        | inl e => rfl
        | inr x => rfl
def x3f (b : Nat → Int32) (n p : Nat) : Nat × Nat × Nat × Option Nat × Nat :=
  let a := rfg b n none p
  let c := rfg b n a.2.1 a.2.2
  let e := rfg b n c.2.1 c.2.2
  (a.1, c.1, e.1, e.2.1, e.2.2)
theorem x3f_eq {b : Nat → Int32} {n p : Nat} : match figs3 b n p with
    | .inl e => (x3f b n p).2.2.2.1 = some e
    | .inr x => x3f b n p = (x.1, x.2.1, x.2.2, none, p + 3) := by
  unfold figs3 x3f
  cases h1 : dgt b n p with
  | none => simp [rfg, h1]
  | some x =>
    cases h2 : dgt b n (p + 1) with
    | none => simp [rfg, h1, h2]
    | some y =>
      cases h3 : dgt b n (p + 2) with
      | none => simp [rfg, h1, h2, h3]
      | some z => simp [rfg, h1, h2, h3]
theorem kl_lt {x : Int32} {k : Nat} (h : kl x = some k) : k < 6 := (kl_st h).1
theorem kl_neq {k : Nat} (h : k < 6) : ¬ nI k = -nI 9 := fin1 (p := fun k => ¬ nI k = -nI 9) (n := 6) (by decide +kernel) h
theorem c_readDeed {p : Nat} (ht4 : t < 4) (hn : rs t = n + 1) (hn60 : n ≤ 60) (hp : p < n) (ht : Tb S 17 18 4 60 rs rc) (hb : byO (rc t)) (hr : RdX S t n p none) (hy : YrX S 2 Y) (hy5 : Y 6 0 ≤ 5)
    (q1 : ∀ S2 x, dst (rc t) n p (Y 6 0) = .inr x → RdX S2 t n (p + 4) none → YrX S2 2 (adY Y x.1 x.2.1 x.2.2.1 x.2.2.2) → FRY S S2 → P none S2)
    (q0 : ∀ S2 e p2 Y2, dst (rc t) n p (Y 6 0) = .inl e → e ≤ 60 → RdX S2 t n p2 (some e) → p2 ≤ n → YrX S2 2 Y2 → FRY S S2 → P none S2) : wpM (d + 3) mX3_readDeed [aR 2 0, aR 6 2] S P := by
  have hz := ht t ht4
  refine x_entry (ls2 := [aR 2 0, aR 6 2, aU, aU, aU, aU]) (Nat.le_of_ble_eq_true rfl) pl_3 rfl (Nat.le_of_ble_eq_true rfl) ?_
  refine s_X3_readDeed_0 ?_
  simp only [B_X3_readDeed_0, wi_aload_n, wi_getfield, fldv_2_0, fds_2_0, cnt_2, fldv_2_1, fds_2_1, fldv_2_3, fds_2_3, wi_invokevirtual, cnt_5, no0, no1, nz1, nz2, nz3, nz4, nz5, nz7, nz8, Classical.not_not, bz0, bz1, wi_nil, ld_0, ld_s, isIv_I, isLv_L, isRv_R, true_and, and_true, lset_0, lset_1, lset_s, avw_I, avw_L, avw_R, clr_cons, clr_nil, kst_0, kst_1, kstL_0, kstL_1, addk_I, pA_0, pA_s, pD_0, pD_s, wid_nil, wid_cons, rcv_c, putv_I, putv_L, List.length_cons, List.length_nil, List.set_cons_zero, List.set_cons_succ, not_false_eq_true, Nat.reduceMod, Nat.reduceDiv, Nat.reduceEqDiff, Nat.reduceLT, Nat.reduceLeDiff, Nat.reduceAdd, Nat.reduceSub, reduceIte, Nat.lt_irrefl, Nat.zero_ne_one, Nat.one_ne_zero, Nat.zero_add, List.nil_append, List.cons_append, Option.toList_some, Option.toList_none, forall_const, false_implies, true_implies, false_or, or_false, true_or, or_true]
  rw [hr.1, hr.2.2.1]
  refine c_Tread ht ht4 (by omega) ?_
  refine s_X3_readDeed_15 ?_
  simp only [B_X3_readDeed_15, wi_invokestatic, no0, no1, nz1, nz2, nz3, nz4, nz5, nz7, nz8, Classical.not_not, bz0, bz1, wi_nil, ld_0, ld_s, isIv_I, isLv_L, isRv_R, true_and, and_true, lset_0, lset_1, lset_s, avw_I, avw_L, avw_R, clr_cons, clr_nil, kst_0, kst_1, kstL_0, kstL_1, addk_I, pA_0, pA_s, pD_0, pD_s, wid_nil, wid_cons, rcv_c, putv_I, putv_L, List.length_cons, List.length_nil, List.set_cons_zero, List.set_cons_succ, not_false_eq_true, Nat.reduceMod, Nat.reduceDiv, Nat.reduceEqDiff, Nat.reduceLT, Nat.reduceLeDiff, Nat.reduceAdd, Nat.reduceSub, reduceIte, Nat.lt_irrefl, Nat.zero_ne_one, Nat.one_ne_zero, Nat.zero_add, List.nil_append, List.cons_append, Option.toList_some, Option.toList_none, forall_const, false_implies, true_implies, false_or, or_false, true_or, or_true]
  refine c_byLetter ?_
  have bad : dst (rc t) n p (Y 6 0) = .inl p → wpX (d + 2) mX3_readDeed 33 [aR 2 0, aU, aU, aU, aU, aU] [] S P := by
    intro h
    refine s_X3_readDeed_33 ?_
    simp only [B_X3_readDeed_33, wi_aload_n, wi_getfield, fldv_2_3, fds_2_3, cnt_2, wi_putfield, pOk_2_4, wi_return_, no0, no1, nz1, nz2, nz3, nz4, nz5, nz7, nz8, Classical.not_not, bz0, bz1, wi_nil, ld_0, ld_s, isIv_I, isLv_L, isRv_R, true_and, and_true, lset_0, lset_1, lset_s, avw_I, avw_L, avw_R, clr_cons, clr_nil, kst_0, kst_1, kstL_0, kstL_1, addk_I, pA_0, pA_s, pD_0, pD_s, wid_nil, wid_cons, rcv_c, putv_I, putv_L, List.length_cons, List.length_nil, List.set_cons_zero, List.set_cons_succ, not_false_eq_true, Nat.reduceMod, Nat.reduceDiv, Nat.reduceEqDiff, Nat.reduceLT, Nat.reduceLeDiff, Nat.reduceAdd, Nat.reduceSub, reduceIte, Nat.lt_irrefl, Nat.zero_ne_one, Nat.one_ne_zero, Nat.zero_add, List.nil_append, List.cons_append, Option.toList_some, Option.toList_none, forall_const, false_implies, true_implies, false_or, or_false, true_or, or_true]
    exact q0 _ p p Y h (by omega) (rdx_4 hr hr.2.2.1) (by omega) (yrx_s2 hy) FRY_s
  cases hk : kl (rc t p) with
  | none =>
    refine s_X3_readDeed_18 ?_
    simp only [B_X3_readDeed_18, wi_istore_n, wi_iload_n, wi_bipush, wi_icmp_eq, wi_aload_n, wi_getfield, fldv_6_7, fds_6_7, cnt_6, wi_iconst, wi_icmp_lt, no0, no1, nz1, nz2, nz3, nz4, nz5, nz7, nz8, Classical.not_not, bz0, bz1, wi_nil, ld_0, ld_s, isIv_I, isLv_L, isRv_R, true_and, and_true, lset_0, lset_1, lset_s, avw_I, avw_L, avw_R, clr_cons, clr_nil, kst_0, kst_1, kstL_0, kstL_1, addk_I, pA_0, pA_s, pD_0, pD_s, wid_nil, wid_cons, rcv_c, putv_I, putv_L, List.length_cons, List.length_nil, List.set_cons_zero, List.set_cons_succ, not_false_eq_true, Nat.reduceMod, Nat.reduceDiv, Nat.reduceEqDiff, Nat.reduceLT, Nat.reduceLeDiff, Nat.reduceAdd, Nat.reduceSub, reduceIte, Nat.lt_irrefl, Nat.zero_ne_one, Nat.one_ne_zero, Nat.zero_add, List.nil_append, List.cons_append, Option.toList_some, Option.toList_none, forall_const, false_implies, true_implies, false_or, or_false, true_or, or_true]
    refine ⟨bad ?_, fun h => absurd trivial h⟩
    unfold dst
    rw [hk]
  | some kd =>
    have hkd := kl_lt hk
    refine s_X3_readDeed_18 ?_
    simp only [B_X3_readDeed_18, wi_istore_n, wi_iload_n, wi_bipush, wi_icmp_eq, wi_aload_n, wi_getfield, fldv_6_7, fds_6_7, cnt_6, wi_iconst, wi_icmp_lt, no0, no1, nz1, nz2, nz3, nz4, nz5, nz7, nz8, Classical.not_not, bz0, bz1, wi_nil, ld_0, ld_s, isIv_I, isLv_L, isRv_R, true_and, and_true, lset_0, lset_1, lset_s, avw_I, avw_L, avw_R, clr_cons, clr_nil, kst_0, kst_1, kstL_0, kstL_1, addk_I, pA_0, pA_s, pD_0, pD_s, wid_nil, wid_cons, rcv_c, putv_I, putv_L, List.length_cons, List.length_nil, List.set_cons_zero, List.set_cons_succ, not_false_eq_true, Nat.reduceMod, Nat.reduceDiv, Nat.reduceEqDiff, Nat.reduceLT, Nat.reduceLeDiff, Nat.reduceAdd, Nat.reduceSub, reduceIte, Nat.lt_irrefl, Nat.zero_ne_one, Nat.one_ne_zero, Nat.zero_add, List.nil_append, List.cons_append, Option.toList_some, Option.toList_none, forall_const, false_implies, true_implies, false_or, or_false, true_or, or_true]
    have e0 := hy.2 0 (by decide)
    rw [e0, i_lt (by omega) (by decide)]
    refine ⟨fun h => absurd h (kl_neq hkd), fun _ => ⟨fun h5 => ?_, fun h5 => bad ?_⟩⟩
    · have hx := x3f_eq (b := rc t) (n := n) (p := p + 1)
      unfold x3f at hx
      dsimp only at hx
      refine s_X3_readDeed_42 ?_
      simp only [B_X3_readDeed_42, wi_aload_n, wi_dup, wi_getfield, fldv_2_3, fds_2_3, cnt_2, wi_iconst, wi_iadd, wi_putfield, pOk_2_3, wi_invokevirtual, no0, no1, nz1, nz2, nz3, nz4, nz5, nz7, nz8, Classical.not_not, bz0, bz1, wi_nil, ld_0, ld_s, isIv_I, isLv_L, isRv_R, true_and, and_true, lset_0, lset_1, lset_s, avw_I, avw_L, avw_R, clr_cons, clr_nil, kst_0, kst_1, kstL_0, kstL_1, addk_I, pA_0, pA_s, pD_0, pD_s, wid_nil, wid_cons, rcv_c, putv_I, putv_L, List.length_cons, List.length_nil, List.set_cons_zero, List.set_cons_succ, not_false_eq_true, Nat.reduceMod, Nat.reduceDiv, Nat.reduceEqDiff, Nat.reduceLT, Nat.reduceLeDiff, Nat.reduceAdd, Nat.reduceSub, reduceIte, Nat.lt_irrefl, Nat.zero_ne_one, Nat.one_ne_zero, Nat.zero_add, List.nil_append, List.cons_append, Option.toList_some, Option.toList_none, forall_const, false_implies, true_implies, false_or, or_false, true_or, or_true]
      rw [hr.2.2.1, nI_add]
      have A := rfg_w (b := rc t) (n := n) (p := p + 1) (w := none) (by omega) hn60 (fun _ h => by cases h)
      refine c_figure ht4 hn (by omega) (fun _ h => by cases h) (tb_fry ht FRY_s (by decide) (by decide)) hb (rdx_3 hr) (yrx_s2 hy) (fun S2 r2 y2 f2 => ?_)
      have f2 := FRY_s.trans f2
      generalize hA : rfg (rc t) n none (p + 1) = a at A r2 hx ⊢
      refine s_X3_readDeed_56 ?_
      simp only [B_X3_readDeed_56, wi_istore_n, wi_aload_n, wi_invokevirtual, cnt_2, no0, no1, nz1, nz2, nz3, nz4, nz5, nz7, nz8, Classical.not_not, bz0, bz1, wi_nil, ld_0, ld_s, isIv_I, isLv_L, isRv_R, true_and, and_true, lset_0, lset_1, lset_s, avw_I, avw_L, avw_R, clr_cons, clr_nil, kst_0, kst_1, kstL_0, kstL_1, addk_I, pA_0, pA_s, pD_0, pD_s, wid_nil, wid_cons, rcv_c, putv_I, putv_L, List.length_cons, List.length_nil, List.set_cons_zero, List.set_cons_succ, not_false_eq_true, Nat.reduceMod, Nat.reduceDiv, Nat.reduceEqDiff, Nat.reduceLT, Nat.reduceLeDiff, Nat.reduceAdd, Nat.reduceSub, reduceIte, Nat.lt_irrefl, Nat.zero_ne_one, Nat.one_ne_zero, Nat.zero_add, List.nil_append, List.cons_append, Option.toList_some, Option.toList_none, forall_const, false_implies, true_implies, false_or, or_false, true_or, or_true]
      have C := rfg_w (b := rc t) (n := n) (p := a.2.2) (w := a.2.1) A.1 hn60 A.2.1
      refine c_figure ht4 hn A.1 (fun z h => by have := A.2.1 z h; omega) (tb_fry ht f2 (by decide) (by decide)) hb r2 y2 (fun S4 r4 y4 f4 => ?_)
      have f4 := f2.trans f4
      generalize hC : rfg (rc t) n a.2.1 a.2.2 = c at C r4 hx ⊢
      refine s_X3_readDeed_61 ?_
      simp only [B_X3_readDeed_61, wi_istore, wi_aload_n, wi_invokevirtual, cnt_2, no0, no1, nz1, nz2, nz3, nz4, nz5, nz7, nz8, Classical.not_not, bz0, bz1, wi_nil, ld_0, ld_s, isIv_I, isLv_L, isRv_R, true_and, and_true, lset_0, lset_1, lset_s, avw_I, avw_L, avw_R, clr_cons, clr_nil, kst_0, kst_1, kstL_0, kstL_1, addk_I, pA_0, pA_s, pD_0, pD_s, wid_nil, wid_cons, rcv_c, putv_I, putv_L, List.length_cons, List.length_nil, List.set_cons_zero, List.set_cons_succ, not_false_eq_true, Nat.reduceMod, Nat.reduceDiv, Nat.reduceEqDiff, Nat.reduceLT, Nat.reduceLeDiff, Nat.reduceAdd, Nat.reduceSub, reduceIte, Nat.lt_irrefl, Nat.zero_ne_one, Nat.one_ne_zero, Nat.zero_add, List.nil_append, List.cons_append, Option.toList_some, Option.toList_none, forall_const, false_implies, true_implies, false_or, or_false, true_or, or_true]
      have E := rfg_w (b := rc t) (n := n) (p := c.2.2) (w := c.2.1) C.1 hn60 C.2.1
      refine c_figure ht4 hn C.1 (fun z h => by have := C.2.1 z h; omega) (tb_fry ht f4 (by decide) (by decide)) hb r4 y4 (fun S6 r6 y6 f6 => ?_)
      have f6 := f4.trans f6
      generalize hE : rfg (rc t) n c.2.1 c.2.2 = e at E r6 hx ⊢
      refine s_X3_readDeed_67 ?_
      simp only [B_X3_readDeed_67, wi_istore, wi_aload_n, wi_iload_n, wi_iload, wi_invokevirtual, cnt_6, no0, no1, nz1, nz2, nz3, nz4, nz5, nz7, nz8, Classical.not_not, bz0, bz1, wi_nil, ld_0, ld_s, isIv_I, isLv_L, isRv_R, true_and, and_true, lset_0, lset_1, lset_s, avw_I, avw_L, avw_R, clr_cons, clr_nil, kst_0, kst_1, kstL_0, kstL_1, addk_I, pA_0, pA_s, pD_0, pD_s, wid_nil, wid_cons, rcv_c, putv_I, putv_L, List.length_cons, List.length_nil, List.set_cons_zero, List.set_cons_succ, not_false_eq_true, Nat.reduceMod, Nat.reduceDiv, Nat.reduceEqDiff, Nat.reduceLT, Nat.reduceLeDiff, Nat.reduceAdd, Nat.reduceSub, reduceIte, Nat.lt_irrefl, Nat.zero_ne_one, Nat.one_ne_zero, Nat.zero_add, List.nil_append, List.cons_append, Option.toList_some, Option.toList_none, forall_const, false_implies, true_implies, false_or, or_false, true_or, or_true]
      refine c_addDeed (by decide) y6 h5 (fun S7 y7 f7 => ?_)
      have r7 := rdx_y r6 f7
      have f8 := f6.trans (FRY_y f7)
      refine s_X3_readDeed_79 ?_
      simp only [B_X3_readDeed_79, wi_return_, no0, no1, nz1, nz2, nz3, nz4, nz5, nz7, nz8, Classical.not_not, bz0, bz1, wi_nil, ld_0, ld_s, isIv_I, isLv_L, isRv_R, true_and, and_true, lset_0, lset_1, lset_s, avw_I, avw_L, avw_R, clr_cons, clr_nil, kst_0, kst_1, kstL_0, kstL_1, addk_I, pA_0, pA_s, pD_0, pD_s, wid_nil, wid_cons, rcv_c, putv_I, putv_L, List.length_cons, List.length_nil, List.set_cons_zero, List.set_cons_succ, not_false_eq_true, Nat.reduceMod, Nat.reduceDiv, Nat.reduceEqDiff, Nat.reduceLT, Nat.reduceLeDiff, Nat.reduceAdd, Nat.reduceSub, reduceIte, Nat.lt_irrefl, Nat.zero_ne_one, Nat.one_ne_zero, Nat.zero_add, List.nil_append, List.cons_append, Option.toList_some, Option.toList_none, forall_const, false_implies, true_implies, false_or, or_false, true_or, or_true]
      cases hh : figs3 (rc t) n (p + 1) with
      | inl x =>
        rw [hh] at hx
        have hx : e.2.1 = some x := hx
        rw [hx] at r7
        refine q0 _ x e.2.2 _ ?_ (E.2.1 x hx) r7 E.1 y7 f8
        unfold dst
        rw [hk]
        dsimp only
        rw [if_neg (by omega), hh]
      | inr x =>
        rw [hh] at hx
        obtain ⟨x1, x2, x3⟩ := x
        have hx : (a.1, c.1, e.1, e.2.1, e.2.2) = (x1, x2, x3, none, p + 1 + 3) := hx
        simp only [Prod.mk.injEq] at hx
        obtain ⟨g1, g2, g3, g4, g5⟩ := hx
        rw [g4, g5] at r7
        rw [g1, g2, g3] at y7
        refine q1 _ (kd, x1, x2, x3) ?_ r7 y7 f8
        unfold dst
        rw [hk]
        dsimp only
        rw [if_neg (by omega), hh]
    · unfold dst
      rw [hk]
      dsimp only
      rw [if_pos (by omega)]
/-- Y is the year of will w, offs o, deeds l, on its first day -/
def YL (Y : Nat → Nat → Nat) (w o : Nat) (l : List (Nat × Nat × Nat × Nat)) : Prop := (Y 6 0 = l.length ∧ Y 6 1 = 1 ∧ Y 6 2 = w ∧ Y 6 3 = o ∧ Y 6 4 = 0) ∧ ∀ i x, l[i]? = some x → Y 0 i = x.1 ∧ Y 1 i = x.2.1 ∧ Y 2 i = x.2.2.1 ∧ Y 3 i = x.2.2.2 ∧ Y 4 i = 0 ∧ Y 5 i = 0
theorem YL_add {w o : Nat} {l : List (Nat × Nat × Nat × Nat)} {x : Nat × Nat × Nat × Nat} (h : YL Y w o l) : YL (adY Y x.1 x.2.1 x.2.2.1 x.2.2.2) w o (l ++ [x]) := by
  obtain ⟨⟨h0, h1, h2, h3, h4⟩, h5⟩ := h
  refine ⟨?_, fun i y hi => ?_⟩
  · simp [adY, yset, h0, h1, h2, h3, h4]
  · rcases Nat.lt_or_ge i l.length with q | q
    · rw [List.getElem?_append_left q] at hi
      obtain ⟨g0, g1, g2, g3, g4, g5⟩ := h5 i y hi
      have hne : ¬ i = Y 6 0 := by omega
      simp [adY, yset, hne, g0, g1, g2, g3, g4, g5]
    · rw [List.getElem?_append_right q] at hi
      have hi0 : i = Y 6 0 := by
        have := (List.getElem?_eq_some_iff.mp hi).1
        simp at this
        omega
      have hy : y = x := by
        rw [show i - l.length = 0 by omega] at hi
        exact (Option.some.inj hi).symm
      subst hy
      simp [adY, yset, hi0]
theorem l_readYear {w o : Nat} (ht4 : t < 4) (hn : rs t = n + 1) (hn60 : n ≤ 60) (hb : byO (rc t)) {S0 : MS} (hT : Tb S0 17 18 4 60 rs rc)
    (q1 : ∀ S2 Y2 l, plD (rc t) n 61 (skp (rc t) n 0 + 4) [] = .inr l → YrX S2 2 Y2 → YL Y2 w o l → FRY S0 S2 → P (some (aI (-nI 9))) S2)
    (q0 : ∀ S2 e, plD (rc t) n 61 (skp (rc t) n 0 + 4) [] = .inl e → FRY S0 S2 → P (some (aI (nI e))) S2) :
    ∀ (m k p : Nat) (S : MS) (Y : Nat → Nat → Nat) (acc : List (Nat × Nat × Nat × Nat)), k + m = 60 → 4 * k ≤ p → p ≤ n → skp (rc t) n p = p → acc.length ≤ 5 → plD (rc t) n (m + 1) p acc = plD (rc t) n 61 (skp (rc t) n 0 + 4) [] → RdX S t n p none → YrX S 2 Y → YL Y w o acc → FRY S0 S → wpX (d + 3) mX3_readYear 43 [aR 2 0, aU, aR 6 2, aI (nI k)] [] S P := by
  have done : ∀ (S : MS) (Y : Nat → Nat → Nat) (acc : List (Nat × Nat × Nat × Nat)) (p : Nat), acc.length ≤ 5 → (if acc.length = 0 then (Sum.inl n : Nat ⊕ List (Nat × Nat × Nat × Nat)) else .inr acc) = plD (rc t) n 61 (skp (rc t) n 0 + 4) [] → RdX S t n p none → YrX S 2 Y → YL Y w o acc → FRY S0 S → wpX (d + 3) mX3_readYear 84 [aR 2 0, aU, aR 6 2, aU] [] S P := by
    intro S Y acc p hacc hp hr hy hl hf
    refine s_X3_readYear_84 ?_
    simp only [B_X3_readYear_84, wi_aload_n, wi_getfield, fldv_2_4, fds_2_4, cnt_2, wi_bipush, wi_icmp_ne, fldv_6_7, fds_6_7, cnt_6, wi_if_ne, fldv_2_2, fds_2_2, wi_putfield, pOk_2_4, no0, no1, nz1, nz2, nz3, nz4, nz5, nz7, nz8, Classical.not_not, bz0, bz1, wi_nil, ld_0, ld_s, isIv_I, isLv_L, isRv_R, true_and, and_true, lset_0, lset_1, lset_s, avw_I, avw_L, avw_R, clr_cons, clr_nil, kst_0, kst_1, kstL_0, kstL_1, addk_I, pA_0, pA_s, pD_0, pD_s, wid_nil, wid_cons, rcv_c, putv_I, putv_L, List.length_cons, List.length_nil, List.set_cons_zero, List.set_cons_succ, not_false_eq_true, Nat.reduceMod, Nat.reduceDiv, Nat.reduceEqDiff, Nat.reduceLT, Nat.reduceLeDiff, Nat.reduceAdd, Nat.reduceSub, reduceIte, Nat.lt_irrefl, Nat.zero_ne_one, Nat.one_ne_zero, Nat.zero_add, List.nil_append, List.cons_append, Option.toList_some, Option.toList_none, forall_const, false_implies, true_implies, false_or, or_false, true_or, or_true]
    have e0 := hy.2 0 (by decide)
    have el := hl.1.1
    rw [hr.2.2.2, hr.2.1, e0]
    refine ⟨fun h => absurd rfl h, fun _ => ⟨fun h => ?_, fun h => ?_⟩⟩
    · have hne : ¬ acc.length = 0 := by
        intro z
        rw [el, z] at h
        exact h nI_0
      rw [if_neg hne] at hp
      refine s_X3_readYear_108 ?_
      simp only [B_X3_readYear_108, wi_aload_n, wi_getfield, fldv_2_4, fds_2_4, cnt_2, wi_ireturn, no0, no1, nz1, nz2, nz3, nz4, nz5, nz7, nz8, Classical.not_not, bz0, bz1, wi_nil, ld_0, ld_s, isIv_I, isLv_L, isRv_R, true_and, and_true, lset_0, lset_1, lset_s, avw_I, avw_L, avw_R, clr_cons, clr_nil, kst_0, kst_1, kstL_0, kstL_1, addk_I, pA_0, pA_s, pD_0, pD_s, wid_nil, wid_cons, rcv_c, putv_I, putv_L, List.length_cons, List.length_nil, List.set_cons_zero, List.set_cons_succ, not_false_eq_true, Nat.reduceMod, Nat.reduceDiv, Nat.reduceEqDiff, Nat.reduceLT, Nat.reduceLeDiff, Nat.reduceAdd, Nat.reduceSub, reduceIte, Nat.lt_irrefl, Nat.zero_ne_one, Nat.one_ne_zero, Nat.zero_add, List.nil_append, List.cons_append, Option.toList_some, Option.toList_none, forall_const, false_implies, true_implies, false_or, or_false, true_or, or_true]
      rw [hr.2.2.2]
      exact q1 S Y acc hp.symm hy hl hf
    · have hz : acc.length = 0 := by
        have h5 : Y 6 0 = 0 := by
          rcases Nat.eq_zero_or_pos (Y 6 0) with z | z
          · exact z
          · exact absurd h (nI_ne0 z (by omega))
        omega
      rw [if_pos hz] at hp
      refine s_X3_readYear_108 ?_
      simp only [B_X3_readYear_108, wi_aload_n, wi_getfield, fldv_2_4, fds_2_4, cnt_2, wi_ireturn, no0, no1, nz1, nz2, nz3, nz4, nz5, nz7, nz8, Classical.not_not, bz0, bz1, wi_nil, ld_0, ld_s, isIv_I, isLv_L, isRv_R, true_and, and_true, lset_0, lset_1, lset_s, avw_I, avw_L, avw_R, clr_cons, clr_nil, kst_0, kst_1, kstL_0, kstL_1, addk_I, pA_0, pA_s, pD_0, pD_s, wid_nil, wid_cons, rcv_c, putv_I, putv_L, List.length_cons, List.length_nil, List.set_cons_zero, List.set_cons_succ, not_false_eq_true, Nat.reduceMod, Nat.reduceDiv, Nat.reduceEqDiff, Nat.reduceLT, Nat.reduceLeDiff, Nat.reduceAdd, Nat.reduceSub, reduceIte, Nat.lt_irrefl, Nat.zero_ne_one, Nat.one_ne_zero, Nat.zero_add, List.nil_append, List.cons_append, Option.toList_some, Option.toList_none, forall_const, false_implies, true_implies, false_or, or_false, true_or, or_true, gI_sI, gI_sL, gI_sA, gL_sI, gL_sL, gL_sA, gA_sI, gA_sL, gA_sA, false_and, and_false, and_self, eq_self, if_true, if_false, sA_sA]
      exact q0 _ n hp.symm (hf.trans FRY_s)
  intro m
  induction m with
  | zero =>
    intro k p S Y acc hk h4 hpn hsk hacc hpl hr hy hl hf
    exact absurd h4 (by omega)
  | succ m ih =>
    intro k p S Y acc hk h4 hpn hsk hacc hpl hr hy hl hf
    have el := hl.1.1
    have hT2 := tb_fry hT hf (by decide) (by decide)
    refine s_X3_readYear_43 ?_
    simp only [B_X3_readYear_43, wi_iload_n, wi_bipush, wi_icmp_ge, wi_aload_n, wi_getfield, fldv_2_4, fds_2_4, cnt_2, wi_icmp_ne, fldv_2_3, fds_2_3, fldv_2_2, fds_2_2, wi_invokevirtual, no0, no1, nz1, nz2, nz3, nz4, nz5, nz7, nz8, Classical.not_not, bz0, bz1, wi_nil, ld_0, ld_s, isIv_I, isLv_L, isRv_R, true_and, and_true, lset_0, lset_1, lset_s, avw_I, avw_L, avw_R, clr_cons, clr_nil, kst_0, kst_1, kstL_0, kstL_1, addk_I, pA_0, pA_s, pD_0, pD_s, wid_nil, wid_cons, rcv_c, putv_I, putv_L, List.length_cons, List.length_nil, List.set_cons_zero, List.set_cons_succ, not_false_eq_true, Nat.reduceMod, Nat.reduceDiv, Nat.reduceEqDiff, Nat.reduceLT, Nat.reduceLeDiff, Nat.reduceAdd, Nat.reduceSub, reduceIte, Nat.lt_irrefl, Nat.zero_ne_one, Nat.one_ne_zero, Nat.zero_add, List.nil_append, List.cons_append, Option.toList_some, Option.toList_none, forall_const, false_implies, true_implies, false_or, or_false, true_or, or_true]
    rw [hr.2.1, hr.2.2.1, hr.2.2.2, i_le (by decide) (by omega), i_le (by omega) (by omega)]
    refine ⟨fun h => absurd h (by omega), fun _ => ⟨fun h => absurd rfl h, fun _ => ⟨fun h => ?_, fun h => ?_⟩⟩⟩
    · refine done S Y acc p hacc ?_ hr hy hl hf
      rw [← hpl, plD_eq, hsk, if_pos h]
    · rw [plD_eq, hsk, if_neg h] at hpl
      refine c_readDeed ht4 hn hn60 (by omega) hT2 hb hr hy (by omega) (fun S2 x hd r2 y2 f2 => ?_) (fun S2 e p2 Y2 hd he r2 hp2 y2 f2 => ?_)
      · rw [el] at hd
        rw [hd] at hpl
        have f2 := hf.trans f2
        have hd4 : p + 4 ≤ n := by
          unfold dst at hd
          split at hd
          · cases hd
          · split at hd
            · cases hd
            · split at hd
              · cases hd
              · rename_i x3 hx3
                unfold figs3 at hx3
                split at hx3
                · cases hx3
                · split at hx3
                  · cases hx3
                  · split at hx3
                    · cases hx3
                    · rename_i hz3
                      have := (dgt_lt hz3).2.1
                      omega
        have ha5 : ¬ acc.length = 5 := by
          intro h5
          unfold dst at hd
          rw [h5] at hd
          split at hd
          · cases hd
          · rw [if_pos rfl] at hd; cases hd
        refine s_X3_readYear_74 ?_
        simp only [B_X3_readYear_74, wi_aload_n, wi_invokevirtual, cnt_2, no0, no1, nz1, nz2, nz3, nz4, nz5, nz7, nz8, Classical.not_not, bz0, bz1, wi_nil, ld_0, ld_s, isIv_I, isLv_L, isRv_R, true_and, and_true, lset_0, lset_1, lset_s, avw_I, avw_L, avw_R, clr_cons, clr_nil, kst_0, kst_1, kstL_0, kstL_1, addk_I, pA_0, pA_s, pD_0, pD_s, wid_nil, wid_cons, rcv_c, putv_I, putv_L, List.length_cons, List.length_nil, List.set_cons_zero, List.set_cons_succ, not_false_eq_true, Nat.reduceMod, Nat.reduceDiv, Nat.reduceEqDiff, Nat.reduceLT, Nat.reduceLeDiff, Nat.reduceAdd, Nat.reduceSub, reduceIte, Nat.lt_irrefl, Nat.zero_ne_one, Nat.one_ne_zero, Nat.zero_add, List.nil_append, List.cons_append, Option.toList_some, Option.toList_none, forall_const, false_implies, true_implies, false_or, or_false, true_or, or_true]
        refine c_blanks ht4 hn hd4 (tb_fry hT f2 (by decide) (by decide)) r2 y2 (fun S3 r3 y3 f3 => ?_)
        obtain ⟨s1, s2, s3⟩ := skp_spec (b := rc t) (n := n) (p := p + 4) hd4
        have hidem : skp (rc t) n (skp (rc t) n (p + 4)) = skp (rc t) n (p + 4) := by
          rcases Nat.lt_or_ge (skp (rc t) n (p + 4)) n with a | a
          · exact skp_no (s3 a)
          · exact skp_end a
        refine s_X3_readYear_78 ?_
        simp only [B_X3_readYear_78, wi_iinc, wi_goto, no0, no1, nz1, nz2, nz3, nz4, nz5, nz7, nz8, Classical.not_not, bz0, bz1, wi_nil, ld_0, ld_s, isIv_I, isLv_L, isRv_R, true_and, and_true, lset_0, lset_1, lset_s, avw_I, avw_L, avw_R, clr_cons, clr_nil, kst_0, kst_1, kstL_0, kstL_1, addk_I, pA_0, pA_s, pD_0, pD_s, wid_nil, wid_cons, rcv_c, putv_I, putv_L, List.length_cons, List.length_nil, List.set_cons_zero, List.set_cons_succ, not_false_eq_true, Nat.reduceMod, Nat.reduceDiv, Nat.reduceEqDiff, Nat.reduceLT, Nat.reduceLeDiff, Nat.reduceAdd, Nat.reduceSub, reduceIte, Nat.lt_irrefl, Nat.zero_ne_one, Nat.one_ne_zero, Nat.zero_add, List.nil_append, List.cons_append, Option.toList_some, Option.toList_none, forall_const, false_implies, true_implies, false_or, or_false, true_or, or_true]
        rw [nI_add]
        refine ih (k + 1) _ S3 _ (acc ++ [x]) (by omega) (by omega) s2 hidem (by rw [List.length_append]; show acc.length + 1 ≤ 5; omega) ?_ r3 y3 (YL_add hl) (f2.trans f3)
        rw [← hpl]
        show plD (rc t) n (m + 1) (skp (rc t) n (p + 4)) (acc ++ [x]) = plD (rc t) n (m + 1) (p + 4) (acc ++ [x])
        rw [plD_eq, plD_eq, hidem]
      · rw [el] at hd
        rw [hd] at hpl
        have f2 := hf.trans f2
        refine s_X3_readYear_74 ?_
        simp only [B_X3_readYear_74, wi_aload_n, wi_invokevirtual, cnt_2, no0, no1, nz1, nz2, nz3, nz4, nz5, nz7, nz8, Classical.not_not, bz0, bz1, wi_nil, ld_0, ld_s, isIv_I, isLv_L, isRv_R, true_and, and_true, lset_0, lset_1, lset_s, avw_I, avw_L, avw_R, clr_cons, clr_nil, kst_0, kst_1, kstL_0, kstL_1, addk_I, pA_0, pA_s, pD_0, pD_s, wid_nil, wid_cons, rcv_c, putv_I, putv_L, List.length_cons, List.length_nil, List.set_cons_zero, List.set_cons_succ, not_false_eq_true, Nat.reduceMod, Nat.reduceDiv, Nat.reduceEqDiff, Nat.reduceLT, Nat.reduceLeDiff, Nat.reduceAdd, Nat.reduceSub, reduceIte, Nat.lt_irrefl, Nat.zero_ne_one, Nat.one_ne_zero, Nat.zero_add, List.nil_append, List.cons_append, Option.toList_some, Option.toList_none, forall_const, false_implies, true_implies, false_or, or_false, true_or, or_true]
        refine c_blanks ht4 hn hp2 (tb_fry hT f2 (by decide) (by decide)) r2 y2 (fun S3 r3 y3 f3 => ?_)
        refine s_X3_readYear_78 ?_
        simp only [B_X3_readYear_78, wi_iinc, wi_goto, no0, no1, nz1, nz2, nz3, nz4, nz5, nz7, nz8, Classical.not_not, bz0, bz1, wi_nil, ld_0, ld_s, isIv_I, isLv_L, isRv_R, true_and, and_true, lset_0, lset_1, lset_s, avw_I, avw_L, avw_R, clr_cons, clr_nil, kst_0, kst_1, kstL_0, kstL_1, addk_I, pA_0, pA_s, pD_0, pD_s, wid_nil, wid_cons, rcv_c, putv_I, putv_L, List.length_cons, List.length_nil, List.set_cons_zero, List.set_cons_succ, not_false_eq_true, Nat.reduceMod, Nat.reduceDiv, Nat.reduceEqDiff, Nat.reduceLT, Nat.reduceLeDiff, Nat.reduceAdd, Nat.reduceSub, reduceIte, Nat.lt_irrefl, Nat.zero_ne_one, Nat.one_ne_zero, Nat.zero_add, List.nil_append, List.cons_append, Option.toList_some, Option.toList_none, forall_const, false_implies, true_implies, false_or, or_false, true_or, or_true]
        rw [nI_add]
        refine s_X3_readYear_43 ?_
        simp only [B_X3_readYear_43, wi_iload_n, wi_bipush, wi_icmp_ge, wi_aload_n, wi_getfield, fldv_2_4, fds_2_4, cnt_2, wi_icmp_ne, fldv_2_3, fds_2_3, fldv_2_2, fds_2_2, wi_invokevirtual, no0, no1, nz1, nz2, nz3, nz4, nz5, nz7, nz8, Classical.not_not, bz0, bz1, wi_nil, ld_0, ld_s, isIv_I, isLv_L, isRv_R, true_and, and_true, lset_0, lset_1, lset_s, avw_I, avw_L, avw_R, clr_cons, clr_nil, kst_0, kst_1, kstL_0, kstL_1, addk_I, pA_0, pA_s, pD_0, pD_s, wid_nil, wid_cons, rcv_c, putv_I, putv_L, List.length_cons, List.length_nil, List.set_cons_zero, List.set_cons_succ, not_false_eq_true, Nat.reduceMod, Nat.reduceDiv, Nat.reduceEqDiff, Nat.reduceLT, Nat.reduceLeDiff, Nat.reduceAdd, Nat.reduceSub, reduceIte, Nat.lt_irrefl, Nat.zero_ne_one, Nat.one_ne_zero, Nat.zero_add, List.nil_append, List.cons_append, Option.toList_some, Option.toList_none, forall_const, false_implies, true_implies, false_or, or_false, true_or, or_true]
        rw [r3.2.2.2, wr_eq (fun z hz => by cases hz; omega)]
        have ex : wpX (d + 3) mX3_readYear 84 [aR 2 0, aU, aR 6 2, aU] [] S3 P := by
          refine s_X3_readYear_84 ?_
          simp only [B_X3_readYear_84, wi_aload_n, wi_getfield, fldv_2_4, fds_2_4, cnt_2, wi_bipush, wi_icmp_ne, fldv_6_7, fds_6_7, cnt_6, wi_if_ne, fldv_2_2, fds_2_2, wi_putfield, pOk_2_4, no0, no1, nz1, nz2, nz3, nz4, nz5, nz7, nz8, Classical.not_not, bz0, bz1, wi_nil, ld_0, ld_s, isIv_I, isLv_L, isRv_R, true_and, and_true, lset_0, lset_1, lset_s, avw_I, avw_L, avw_R, clr_cons, clr_nil, kst_0, kst_1, kstL_0, kstL_1, addk_I, pA_0, pA_s, pD_0, pD_s, wid_nil, wid_cons, rcv_c, putv_I, putv_L, List.length_cons, List.length_nil, List.set_cons_zero, List.set_cons_succ, not_false_eq_true, Nat.reduceMod, Nat.reduceDiv, Nat.reduceEqDiff, Nat.reduceLT, Nat.reduceLeDiff, Nat.reduceAdd, Nat.reduceSub, reduceIte, Nat.lt_irrefl, Nat.zero_ne_one, Nat.one_ne_zero, Nat.zero_add, List.nil_append, List.cons_append, Option.toList_some, Option.toList_none, forall_const, false_implies, true_implies, false_or, or_false, true_or, or_true]
          rw [r3.2.2.2, wr_eq (fun z hz => by cases hz; omega)]
          refine ⟨fun _ => ?_, fun h => by cases h⟩
          refine s_X3_readYear_108 ?_
          simp only [B_X3_readYear_108, wi_aload_n, wi_getfield, fldv_2_4, fds_2_4, cnt_2, wi_ireturn, no0, no1, nz1, nz2, nz3, nz4, nz5, nz7, nz8, Classical.not_not, bz0, bz1, wi_nil, ld_0, ld_s, isIv_I, isLv_L, isRv_R, true_and, and_true, lset_0, lset_1, lset_s, avw_I, avw_L, avw_R, clr_cons, clr_nil, kst_0, kst_1, kstL_0, kstL_1, addk_I, pA_0, pA_s, pD_0, pD_s, wid_nil, wid_cons, rcv_c, putv_I, putv_L, List.length_cons, List.length_nil, List.set_cons_zero, List.set_cons_succ, not_false_eq_true, Nat.reduceMod, Nat.reduceDiv, Nat.reduceEqDiff, Nat.reduceLT, Nat.reduceLeDiff, Nat.reduceAdd, Nat.reduceSub, reduceIte, Nat.lt_irrefl, Nat.zero_ne_one, Nat.one_ne_zero, Nat.zero_add, List.nil_append, List.cons_append, Option.toList_some, Option.toList_none, forall_const, false_implies, true_implies, false_or, or_false, true_or, or_true]
          rw [r3.2.2.2]
          exact q0 S3 e hpl.symm (f2.trans f3)
        exact ⟨fun _ => ex, fun _ => ⟨fun _ => ex, fun h => by cases h⟩⟩

theorem int_nat (x : Int32) : x = nI x.toBitVec.toNat := by
  apply Int32.toBitVec_inj.mp
  show x.toBitVec = BitVec.ofNat 32 x.toBitVec.toNat
  rw [BitVec.ofNat_toNat, BitVec.setWidth_eq]
/-- whatever a year's cells hold, they hold numbers -/
theorem yrx_any (S : MS) (j : Nat) : ∃ Y, YrX S j Y := ⟨fun f i => if f = 6 then (gI S 6 j (7 + i)).toBitVec.toNat else (gA S (20 + f) j i).toBitVec.toNat, fun f hf i _ => by dsimp only; rw [if_neg (by omega)]; exact int_nat _, fun t _ => by dsimp only; rw [if_pos rfl]; exact int_nat _⟩
theorem c_readYear (ht4 : t < 4) (hn : rs t = n + 1) (hn60 : n ≤ 60) (ht : Tb S 17 18 4 60 rs rc) (hb : byO (rc t))
    (q1 : ∀ S2 Y2 w o l, prs (rc t) n = .inr (w, o, l) → YrX S2 2 Y2 → YL Y2 w o l → FRY S S2 → P (some (aI (-nI 9))) S2)
    (q0 : ∀ S2 e, prs (rc t) n = .inl e → FRY S S2 → P (some (aI (nI e))) S2) : wpM (d + 4) mX3_readYear [aR 2 0, aI (nI t), aR 6 2] S P := by
  obtain ⟨Y, hy⟩ := yrx_any S 2
  have hsz := (ht t ht4).1
  refine x_entry (ls2 := [aR 2 0, aI (nI t), aR 6 2, aU]) (Nat.le_of_ble_eq_true rfl) pl_3 rfl (Nat.le_of_ble_eq_true rfl) ?_
  refine s_X3_readYear_0 ?_
  simp only [B_X3_readYear_0, wi_aload_n, wi_iload_n, wi_putfield, pOk_2_1, cnt_2, wi_getfield, fldv_2_0, fds_2_0, wi_invokevirtual, cnt_5, no0, no1, nz1, nz2, nz3, nz4, nz5, nz7, nz8, Classical.not_not, bz0, bz1, wi_nil, ld_0, ld_s, isIv_I, isLv_L, isRv_R, true_and, and_true, lset_0, lset_1, lset_s, avw_I, avw_L, avw_R, clr_cons, clr_nil, kst_0, kst_1, kstL_0, kstL_1, addk_I, pA_0, pA_s, pD_0, pD_s, wid_nil, wid_cons, rcv_c, putv_I, putv_L, List.length_cons, List.length_nil, List.set_cons_zero, List.set_cons_succ, not_false_eq_true, Nat.reduceMod, Nat.reduceDiv, Nat.reduceEqDiff, Nat.reduceLT, Nat.reduceLeDiff, Nat.reduceAdd, Nat.reduceSub, reduceIte, Nat.lt_irrefl, Nat.zero_ne_one, Nat.one_ne_zero, Nat.zero_add, List.nil_append, List.cons_append, Option.toList_some, Option.toList_none, forall_const, false_implies, true_implies, false_or, or_false, true_or, or_true]
  refine c_Tlength (rs := rs) (rc := rc) (tb_fry ht FRY_s (by decide) (by decide)) ht4 ?_
  rw [hn, sz_s]
  refine s_X3_readYear_14 ?_
  simp only [B_X3_readYear_14, wi_putfield, pOk_2_2, cnt_2, wi_aload_n, wi_iconst, pOk_2_3, wi_bipush, pOk_2_4, wi_invokevirtual, cnt_6, no0, no1, nz1, nz2, nz3, nz4, nz5, nz7, nz8, Classical.not_not, bz0, bz1, wi_nil, ld_0, ld_s, isIv_I, isLv_L, isRv_R, true_and, and_true, lset_0, lset_1, lset_s, avw_I, avw_L, avw_R, clr_cons, clr_nil, kst_0, kst_1, kstL_0, kstL_1, addk_I, pA_0, pA_s, pD_0, pD_s, wid_nil, wid_cons, rcv_c, putv_I, putv_L, List.length_cons, List.length_nil, List.set_cons_zero, List.set_cons_succ, not_false_eq_true, Nat.reduceMod, Nat.reduceDiv, Nat.reduceEqDiff, Nat.reduceLT, Nat.reduceLeDiff, Nat.reduceAdd, Nat.reduceSub, reduceIte, Nat.lt_irrefl, Nat.zero_ne_one, Nat.one_ne_zero, Nat.zero_add, List.nil_append, List.cons_append, Option.toList_some, Option.toList_none, forall_const, false_implies, true_implies, false_or, or_false, true_or, or_true]
  refine c_clear (by decide) (yrx_s2 (yrx_s2 (yrx_s2 (yrx_s2 hy)))) (fun S1 y1 f1 => ?_)
  have F1 : FRY S S1 := (((FRY_s.trans FRY_s).trans FRY_s).trans FRY_s).trans (FRY_y f1)
  have R1 : RdX S1 t n 0 none := rdx_y ⟨by simp [gI_sI], by simp [gI_sI], by simp [gI_sI], by simp [gI_sI, wrI]⟩ f1
  refine s_X3_readYear_32 ?_
  simp only [B_X3_readYear_32, wi_aload_n, wi_invokevirtual, cnt_2, no0, no1, nz1, nz2, nz3, nz4, nz5, nz7, nz8, Classical.not_not, bz0, bz1, wi_nil, ld_0, ld_s, isIv_I, isLv_L, isRv_R, true_and, and_true, lset_0, lset_1, lset_s, avw_I, avw_L, avw_R, clr_cons, clr_nil, kst_0, kst_1, kstL_0, kstL_1, addk_I, pA_0, pA_s, pD_0, pD_s, wid_nil, wid_cons, rcv_c, putv_I, putv_L, List.length_cons, List.length_nil, List.set_cons_zero, List.set_cons_succ, not_false_eq_true, Nat.reduceMod, Nat.reduceDiv, Nat.reduceEqDiff, Nat.reduceLT, Nat.reduceLeDiff, Nat.reduceAdd, Nat.reduceSub, reduceIte, Nat.lt_irrefl, Nat.zero_ne_one, Nat.one_ne_zero, Nat.zero_add, List.nil_append, List.cons_append, Option.toList_some, Option.toList_none, forall_const, false_implies, true_implies, false_or, or_false, true_or, or_true]
  refine c_readHead ht4 hn hn60 (tb_fry ht F1 (by decide) (by decide)) hb R1 y1 (fun S2 w o hh r2 y2 f2 => ?_) (fun S2 e p2 Y2 hh he r2 hp2 y2 _ f2 => ?_)
  · have F2 := F1.trans f2
    have hd4 : skp (rc t) n 0 + 4 ≤ n := by
      unfold hdD at hh
      split at hh
      · cases hh
      · split at hh
        · cases hh
        · split at hh
          · cases hh
          · split at hh
            · cases hh
            · split at hh
              · cases hh
              · rename_i hz3
                have := (dgt_lt hz3).2.1
                omega
    refine s_X3_readYear_37 ?_
    simp only [B_X3_readYear_37, wi_aload_n, wi_invokevirtual, cnt_2, no0, no1, nz1, nz2, nz3, nz4, nz5, nz7, nz8, Classical.not_not, bz0, bz1, wi_nil, ld_0, ld_s, isIv_I, isLv_L, isRv_R, true_and, and_true, lset_0, lset_1, lset_s, avw_I, avw_L, avw_R, clr_cons, clr_nil, kst_0, kst_1, kstL_0, kstL_1, addk_I, pA_0, pA_s, pD_0, pD_s, wid_nil, wid_cons, rcv_c, putv_I, putv_L, List.length_cons, List.length_nil, List.set_cons_zero, List.set_cons_succ, not_false_eq_true, Nat.reduceMod, Nat.reduceDiv, Nat.reduceEqDiff, Nat.reduceLT, Nat.reduceLeDiff, Nat.reduceAdd, Nat.reduceSub, reduceIte, Nat.lt_irrefl, Nat.zero_ne_one, Nat.one_ne_zero, Nat.zero_add, List.nil_append, List.cons_append, Option.toList_some, Option.toList_none, forall_const, false_implies, true_implies, false_or, or_false, true_or, or_true]
    refine c_blanks ht4 hn hd4 (tb_fry ht F2 (by decide) (by decide)) r2 y2 (fun S3 r3 y3 f3 => ?_)
    obtain ⟨s1, s2, s3⟩ := skp_spec (b := rc t) (n := n) (p := skp (rc t) n 0 + 4) hd4
    have hidem : skp (rc t) n (skp (rc t) n (skp (rc t) n 0 + 4)) = skp (rc t) n (skp (rc t) n 0 + 4) := by
      rcases Nat.lt_or_ge (skp (rc t) n (skp (rc t) n 0 + 4)) n with a | a
      · exact skp_no (s3 a)
      · exact skp_end a
    refine s_X3_readYear_41 ?_
    simp only [B_X3_readYear_41, wi_iconst, wi_istore_n, no0, no1, nz1, nz2, nz3, nz4, nz5, nz7, nz8, Classical.not_not, bz0, bz1, wi_nil, ld_0, ld_s, isIv_I, isLv_L, isRv_R, true_and, and_true, lset_0, lset_1, lset_s, avw_I, avw_L, avw_R, clr_cons, clr_nil, kst_0, kst_1, kstL_0, kstL_1, addk_I, pA_0, pA_s, pD_0, pD_s, wid_nil, wid_cons, rcv_c, putv_I, putv_L, List.length_cons, List.length_nil, List.set_cons_zero, List.set_cons_succ, not_false_eq_true, Nat.reduceMod, Nat.reduceDiv, Nat.reduceEqDiff, Nat.reduceLT, Nat.reduceLeDiff, Nat.reduceAdd, Nat.reduceSub, reduceIte, Nat.lt_irrefl, Nat.zero_ne_one, Nat.one_ne_zero, Nat.zero_add, List.nil_append, List.cons_append, Option.toList_some, Option.toList_none, forall_const, false_implies, true_implies, false_or, or_false, true_or, or_true]
    refine l_readYear (w := w) (o := o) ht4 hn hn60 hb ht (fun S4 Y4 l hl z1 z2 z3 => q1 S4 Y4 w o l ?_ z1 z2 z3) (fun S4 e hl z3 => q0 S4 e ?_ z3) 60 0 _ S3 _ [] rfl (by omega) s2 hidem (by decide) ?_ r3 y3 ?_ (F2.trans f3)
    · unfold prs
      rw [hh]
      dsimp only
      rw [hl]
    · unfold prs
      rw [hh]
      dsimp only
      rw [hl]
    · rw [plD_eq, plD_eq, hidem]
    · refine ⟨?_, fun i x h => by cases h⟩
      simp [yset]
  · have F2 := F1.trans f2
    refine s_X3_readYear_37 ?_
    simp only [B_X3_readYear_37, wi_aload_n, wi_invokevirtual, cnt_2, no0, no1, nz1, nz2, nz3, nz4, nz5, nz7, nz8, Classical.not_not, bz0, bz1, wi_nil, ld_0, ld_s, isIv_I, isLv_L, isRv_R, true_and, and_true, lset_0, lset_1, lset_s, avw_I, avw_L, avw_R, clr_cons, clr_nil, kst_0, kst_1, kstL_0, kstL_1, addk_I, pA_0, pA_s, pD_0, pD_s, wid_nil, wid_cons, rcv_c, putv_I, putv_L, List.length_cons, List.length_nil, List.set_cons_zero, List.set_cons_succ, not_false_eq_true, Nat.reduceMod, Nat.reduceDiv, Nat.reduceEqDiff, Nat.reduceLT, Nat.reduceLeDiff, Nat.reduceAdd, Nat.reduceSub, reduceIte, Nat.lt_irrefl, Nat.zero_ne_one, Nat.one_ne_zero, Nat.zero_add, List.nil_append, List.cons_append, Option.toList_some, Option.toList_none, forall_const, false_implies, true_implies, false_or, or_false, true_or, or_true]
    refine c_blanks ht4 hn hp2 (tb_fry ht F2 (by decide) (by decide)) r2 y2 (fun S3 r3 y3 f3 => ?_)
    refine s_X3_readYear_41 ?_
    simp only [B_X3_readYear_41, wi_iconst, wi_istore_n, no0, no1, nz1, nz2, nz3, nz4, nz5, nz7, nz8, Classical.not_not, bz0, bz1, wi_nil, ld_0, ld_s, isIv_I, isLv_L, isRv_R, true_and, and_true, lset_0, lset_1, lset_s, avw_I, avw_L, avw_R, clr_cons, clr_nil, kst_0, kst_1, kstL_0, kstL_1, addk_I, pA_0, pA_s, pD_0, pD_s, wid_nil, wid_cons, rcv_c, putv_I, putv_L, List.length_cons, List.length_nil, List.set_cons_zero, List.set_cons_succ, not_false_eq_true, Nat.reduceMod, Nat.reduceDiv, Nat.reduceEqDiff, Nat.reduceLT, Nat.reduceLeDiff, Nat.reduceAdd, Nat.reduceSub, reduceIte, Nat.lt_irrefl, Nat.zero_ne_one, Nat.one_ne_zero, Nat.zero_add, List.nil_append, List.cons_append, Option.toList_some, Option.toList_none, forall_const, false_implies, true_implies, false_or, or_false, true_or, or_true]
    refine s_X3_readYear_43 ?_
    simp only [B_X3_readYear_43, wi_iload_n, wi_bipush, wi_icmp_ge, wi_aload_n, wi_getfield, fldv_2_4, fds_2_4, cnt_2, wi_icmp_ne, fldv_2_3, fds_2_3, fldv_2_2, fds_2_2, wi_invokevirtual, no0, no1, nz1, nz2, nz3, nz4, nz5, nz7, nz8, Classical.not_not, bz0, bz1, wi_nil, ld_0, ld_s, isIv_I, isLv_L, isRv_R, true_and, and_true, lset_0, lset_1, lset_s, avw_I, avw_L, avw_R, clr_cons, clr_nil, kst_0, kst_1, kstL_0, kstL_1, addk_I, pA_0, pA_s, pD_0, pD_s, wid_nil, wid_cons, rcv_c, putv_I, putv_L, List.length_cons, List.length_nil, List.set_cons_zero, List.set_cons_succ, not_false_eq_true, Nat.reduceMod, Nat.reduceDiv, Nat.reduceEqDiff, Nat.reduceLT, Nat.reduceLeDiff, Nat.reduceAdd, Nat.reduceSub, reduceIte, Nat.lt_irrefl, Nat.zero_ne_one, Nat.one_ne_zero, Nat.zero_add, List.nil_append, List.cons_append, Option.toList_some, Option.toList_none, forall_const, false_implies, true_implies, false_or, or_false, true_or, or_true]
    rw [r3.2.2.2, wr_eq (fun z hz => by cases hz; omega)]
    have ex : wpX (d + 3) mX3_readYear 84 [aR 2 0, aU, aR 6 2, aU] [] S3 P := by
      refine s_X3_readYear_84 ?_
      simp only [B_X3_readYear_84, wi_aload_n, wi_getfield, fldv_2_4, fds_2_4, cnt_2, wi_bipush, wi_icmp_ne, fldv_6_7, fds_6_7, cnt_6, wi_if_ne, fldv_2_2, fds_2_2, wi_putfield, pOk_2_4, no0, no1, nz1, nz2, nz3, nz4, nz5, nz7, nz8, Classical.not_not, bz0, bz1, wi_nil, ld_0, ld_s, isIv_I, isLv_L, isRv_R, true_and, and_true, lset_0, lset_1, lset_s, avw_I, avw_L, avw_R, clr_cons, clr_nil, kst_0, kst_1, kstL_0, kstL_1, addk_I, pA_0, pA_s, pD_0, pD_s, wid_nil, wid_cons, rcv_c, putv_I, putv_L, List.length_cons, List.length_nil, List.set_cons_zero, List.set_cons_succ, not_false_eq_true, Nat.reduceMod, Nat.reduceDiv, Nat.reduceEqDiff, Nat.reduceLT, Nat.reduceLeDiff, Nat.reduceAdd, Nat.reduceSub, reduceIte, Nat.lt_irrefl, Nat.zero_ne_one, Nat.one_ne_zero, Nat.zero_add, List.nil_append, List.cons_append, Option.toList_some, Option.toList_none, forall_const, false_implies, true_implies, false_or, or_false, true_or, or_true]
      rw [r3.2.2.2, wr_eq (fun z hz => by cases hz; omega)]
      refine ⟨fun _ => ?_, fun h => by cases h⟩
      refine s_X3_readYear_108 ?_
      simp only [B_X3_readYear_108, wi_aload_n, wi_getfield, fldv_2_4, fds_2_4, cnt_2, wi_ireturn, no0, no1, nz1, nz2, nz3, nz4, nz5, nz7, nz8, Classical.not_not, bz0, bz1, wi_nil, ld_0, ld_s, isIv_I, isLv_L, isRv_R, true_and, and_true, lset_0, lset_1, lset_s, avw_I, avw_L, avw_R, clr_cons, clr_nil, kst_0, kst_1, kstL_0, kstL_1, addk_I, pA_0, pA_s, pD_0, pD_s, wid_nil, wid_cons, rcv_c, putv_I, putv_L, List.length_cons, List.length_nil, List.set_cons_zero, List.set_cons_succ, not_false_eq_true, Nat.reduceMod, Nat.reduceDiv, Nat.reduceEqDiff, Nat.reduceLT, Nat.reduceLeDiff, Nat.reduceAdd, Nat.reduceSub, reduceIte, Nat.lt_irrefl, Nat.zero_ne_one, Nat.one_ne_zero, Nat.zero_add, List.nil_append, List.cons_append, Option.toList_some, Option.toList_none, forall_const, false_implies, true_implies, false_or, or_false, true_or, or_true]
      rw [r3.2.2.2]
      refine q0 S3 e ?_ (F2.trans f3)
      unfold prs
      rw [hh]
    exact ⟨fun _ => ex, fun _ => ⟨fun _ => ex, fun h => by cases h⟩⟩
end
